/-! THE CLASS'S MARKET: an hour -/
theorem kmx1 : Cond.methodLink RX0 29 Lib.Math.max.name ∈ wB := wB_of 471 (by decide +kernel) (by decide +kernel)
theorem kmx2 : Cond.static Lib.Math.max.name ∈ wB := wB_of 472 (by decide +kernel) (by decide +kernel)
theorem kmx3 : Cond.initialized "java/lang/Math" ∈ wB := wB_of 22 (by decide +kernel) (by decide +kernel)
theorem kmx4 : Cond.code Lib.Math.max.name Lib.Math.max.code 2 (some .int) ∈ wB := wB_of 473 (by decide +kernel) (by decide +kernel)
def cTm (M : Nat → Int32) (b : Nat) : Bool := !decide (M (7 + 5 * b + 1) = 0) && decide (M (7 + 5 * b + 0) < M (129 + b))
def cHt (M : Nat → Int32) (b : Nat) (c : Int32) : Nat → Int32 := upd M (7 + 5 * b + 2) (if cTm M b = true then M (7 + 5 * b + 2) + ((M (129 + b) - M (7 + 5 * b + 0)) / nI 10 + nI 1) else if nI 0 < M (7 + 5 * b + 2) - c then M (7 + 5 * b + 2) - c else nI 0)
def cTr (M : Nat → Int32) (b : Nat) : Nat → Int32 := if M (7 + 5 * b + 1) = 0 then M else if M (7 + 5 * b + 2) ≤ nI 9 then M else upd (upd M (7 + 5 * b + 1) (nI 0)) (7 + 5 * b + 3) ((upd M (7 + 5 * b + 1) (nI 0)) (7 + 5 * b + 3) + nI 1)
def cBeg (M : Nat → Int32) (k : Nat) (a0 a1 a2 a3 : Int32) : Nat → Int32 := upd (upd (upd (upd (upd (upd (upd (upd M (39 + 8 * k + 0) a0) (39 + 8 * k + 1) a1) (39 + 8 * k + 2) a2) (39 + 8 * k + 3) a3) (39 + 8 * k + 4) (-1)) (39 + 8 * k + 5) (nI 0)) (39 + 8 * k + 6) (nI 0)) (39 + 8 * k + 7) (nI 0)
theorem cBeg_mW {M : Nat → Int32} {n k : Nat} {a0 a1 a2 a3 : Int32} (h : mW M n) : mW (cBeg M k a0 a1 a2 a3) n := mW_upd (mW_upd (mW_upd (mW_upd (mW_upd (mW_upd (mW_upd (mW_upd h (by omega)) (by omega)) (by omega)) (by omega)) (by omega)) (by omega)) (by omega)) (by omega)
def cPon (M : Nat → Int32) (b : Nat) : Nat → Int32 := upd (upd M (7 + 5 * b + 1) (nI 1)) (7 + 5 * b + 2) (nI 0)
/-- where the stalls draw from -/
def fs0 (M : Nat → Int32) : Nat → (Nat → Int32)
  | 0 => M
  | i + 1 => upd (fs0 M i) (129 + i) (nI 0)
def fsP (P : Nat → Int32) (i : Nat) : Nat → Int32 := if cSrc P i = -1 then upd P (119 + i) (cSrc P i) else upd (upd P (119 + i) (cSrc P i)) (129 + cB P (P (39 + 8 * i + 4))) ((upd P (119 + i) (cSrc P i)) (129 + cB P (P (39 + 8 * i + 4))) + (upd P (119 + i) (cSrc P i)) (39 + 8 * i + 0))
def fsS (P : Nat → Int32) : Nat → (Nat → Int32)
  | 0 => P
  | i + 1 => fsP (fsS P i) i
def cFS (M : Nat → Int32) (n : Nat) : Nat → Int32 := fsS (fs0 M 4) n
theorem fs0_mW {M : Nat → Int32} {n : Nat} (h : mW M n) : ∀ i, mW (fs0 M i) n
  | 0 => h
  | i + 1 => mW_upd (fs0_mW h i) (by omega)
theorem fsP_mW {P : Nat → Int32} {n i : Nat} (h : mW P n) : mW (fsP P i) n := by
  unfold fsP
  split
  · exact mW_upd h (by omega)
  · exact mW_upd (mW_upd h (by omega)) (by omega)
theorem fsS_mW {P : Nat → Int32} {n : Nat} (h : mW P n) : ∀ i, mW (fsS P i) n
  | 0 => h
  | i + 1 => fsP_mW (fsS_mW h i)
/-- the sources are breakers or none -/
def sW (M : Nat → Int32) (n : Nat) : Prop := ∀ k, k < n → ¬ M (119 + k) = -1 → M (119 + k) = nI (iN (M (119 + k))) ∧ iN (M (119 + k)) < 4
theorem nI_iN {v : Int32} {a : Nat} (ha : a < 2147483648) (h : v = nI a) : iN v = a := by rw [h]; unfold iN; exact nI_clamp ha
theorem fsS_sW {P : Nat → Int32} : ∀ i, i ≤ 10 → sW (fsS P i) i
  | 0, _ => fun k hk => absurd hk (Nat.not_lt_zero _)
  | i + 1, hi => by
    intro k hk h1
    have ih := fsS_sW (P := P) i (by omega)
    have e : (fsS P (i + 1)) (119 + k) = if k = i then cSrc (fsS P i) i else (fsS P i) (119 + k) := by
      show fsP (fsS P i) i (119 + k) = _
      unfold fsP
      by_cases c : k = i
      · subst c
        rw [if_pos rfl]
        split
        · rw [upd_s]
        · rename_i q
          have q2 := (cSrc_n q).2
          rw [upd_n (by omega), upd_s]
      · rw [if_neg c]
        split
        · rw [upd_n (by omega)]
        · rename_i q
          have q2 := (cSrc_n q).2
          rw [upd_n (by omega), upd_n (by omega)]
    rw [e] at h1 ⊢
    by_cases c : k = i
    · rw [if_pos c] at h1 ⊢
      have q := cSrc_n h1
      rw [nI_iN (by omega) q.1]
      exact q
    · rw [if_neg c] at h1 ⊢
      exact ih k (by omega) h1
theorem sW_upd {M : Nat → Int32} {n i : Nat} {v : Int32} (h : sW M n) (hi : ∀ k, k < n → i ≠ 119 + k) : sW (upd M i v) n := by
  intro k hk
  rw [upd_n (Ne.symm (hi k hk))]
  exact h k hk
/-- the stall that is shed first: its number, its rank, its load -/
def cF (M : Nat → Int32) (b : Int32) : Nat → Int32 × Int32 × Int32
  | 0 => (-1, nI 0, nI 0)
  | i + 1 => if M (119 + i) = b ∧ ((cF M b i).2.1 < M (39 + 8 * i + 3) ∨ (M (39 + 8 * i + 3) = (cF M b i).2.1 ∧ (cF M b i).2.2 < M (39 + 8 * i + 0))) then (nI i, M (39 + 8 * i + 3), M (39 + 8 * i + 0)) else cF M b i
theorem cF_n {M : Nat → Int32} {b : Int32} : ∀ i, i ≤ 10 → ¬ (cF M b i).1 = -1 → (cF M b i).1 = nI (iN (cF M b i).1) ∧ iN (cF M b i).1 < i
  | 0, _, h => absurd rfl h
  | i + 1, hi, h => by
    unfold cF at h ⊢
    split
    · show nI i = nI (iN (nI i)) ∧ iN (nI i) < i + 1
      rw [nI_iN (v := nI i) (by omega) rfl]
      exact ⟨rfl, by omega⟩
    · rename_i q
      rw [if_neg q] at h
      have := cF_n i (by omega) h
      exact ⟨this.1, by omega⟩
def cSh1 (M : Nat → Int32) (b k : Nat) : Nat → Int32 := upd (upd M (39 + 8 * k + 5) (nI 1)) (119 + k) (-1)
def cSh2 (M : Nat → Int32) (b k : Nat) : Nat → Int32 := upd (cSh1 M b k) (129 + b) (cSh1 M b k (129 + b) - cSh1 M b k (39 + 8 * k + 0))
def cSh3 (M : Nat → Int32) (b k : Nat) : Nat → Int32 := upd (cSh2 M b k) 5 (cSh2 M b k 5 + nI 1)
def cShL (n b : Nat) : Nat → (Nat → Int32) → Nat → Int32
  | 0, M => M
  | f + 1, M => if cTm M b = true ∧ ¬ (cF M (nI b) n).1 = -1 then cShL n b f (cSh3 M b (iN (cF M (nI b) n).1)) else M
theorem cShL_no {n b f : Nat} {M : Nat → Int32} (h : ¬ (cTm M b = true ∧ ¬ (cF M (nI b) n).1 = -1)) : cShL n b f M = M := by
  cases f
  · rfl
  · rw [cShL, if_neg h]
theorem cShL_go {n b f : Nat} {M : Nat → Int32} (hf : 1 ≤ f) (h : cTm M b = true ∧ ¬ (cF M (nI b) n).1 = -1) : cShL n b f M = cShL n b (f - 1) (cSh3 M b (iN (cF M (nI b) n).1)) := by
  cases f
  · omega
  · rw [cShL, if_pos h]; rfl
theorem cSh3_mW {M : Nat → Int32} {n b k : Nat} (h : mW M n) : mW (cSh3 M b k) n := mW_upd (mW_upd (mW_upd (mW_upd h (by omega)) (by omega)) (by omega)) (by omega)
theorem cSh3_sW {M : Nat → Int32} {n b k : Nat} (hn : n ≤ 10) (hk : k < 10) (h : sW M n) : sW (cSh3 M b k) n := by
  refine sW_upd (sW_upd ?_ (fun _ _ => by omega)) (fun _ _ => by omega)
  intro j hj h1
  unfold cSh1 at h1 ⊢
  by_cases c : j = k
  · subst c; rw [upd_s] at h1; exact absurd rfl h1
  · rw [upd_n (by omega)] at h1 ⊢
    exact sW_upd h (fun _ _ => by omega) j hj h1
theorem cShL_mW {n b : Nat} : ∀ f {M : Nat → Int32}, mW M n → mW (cShL n b f M) n
  | 0, _, h => h
  | f + 1, M, h => by
    unfold cShL
    split
    · exact cShL_mW f (cSh3_mW h)
    · exact h
theorem cShL_sW {n b : Nat} (hn : n ≤ 10) : ∀ f {M : Nat → Int32}, sW M n → sW (cShL n b f M) n
  | 0, _, h => h
  | f + 1, M, h => by
    unfold cShL
    split
    · rename_i q
      exact cShL_sW hn f (cSh3_sW hn (by have := (cF_n n hn q.2).2; omega) h)
    · exact h
/-- a stall's meter -/
def cm1 (M : Nat → Int32) (k : Nat) : Nat → Int32 := upd M (39 + 8 * k + 6) (M (39 + 8 * k + 6) + M (39 + 8 * k + 0))
def cm2 (M : Nat → Int32) (k b : Nat) : Nat → Int32 := upd (cm1 M k) (7 + 5 * b + 4) (cm1 M k (7 + 5 * b + 4) + cm1 M k (39 + 8 * k + 0))
def cm3 (M : Nat → Int32) (k b : Nat) : Nat → Int32 := upd (cm2 M k b) 6 (cm2 M k b 6 + nI 1)
def cMet (M : Nat → Int32) (h : Int32) (k : Nat) : Nat → Int32 := if M (119 + k) = -1 then (if cWant M k h = true then upd M (39 + 8 * k + 7) (M (39 + 8 * k + 7) + nI 1) else M) else cm3 M k (iN (M (119 + k)))
def cMeS (M : Nat → Int32) (h : Int32) : Nat → (Nat → Int32)
  | 0 => M
  | k + 1 => cMet (cMeS M h k) h k
theorem cm3_at {M : Nat → Int32} {k b j : Nat} (h1 : j ≠ 39 + 8 * k + 6) (h2 : j ≠ 7 + 5 * b + 4) (h3 : j ≠ 6) : cm3 M k b j = M j := by unfold cm3; rw [upd_n h3]; unfold cm2; rw [upd_n h2]; unfold cm1; rw [upd_n h1]
theorem cMet_at {M : Nat → Int32} {n k j : Nat} {h : Int32} (hs : sW M n) (hk : k < n) (h1 : ¬ (39 + 8 * k + 6 = j ∨ 39 + 8 * k + 7 = j)) (h2 : ∀ b, b < 4 → j ≠ 7 + 5 * b + 4) (h3 : j ≠ 6) : cMet M h k j = M j := by
  unfold cMet
  split
  · split
    · rw [upd_n (by omega)]
    · rfl
  · rename_i q
    exact cm3_at (by omega) (h2 _ (hs k hk q).2) h3
theorem cMeS_ok {M : Nat → Int32} {n : Nat} {h : Int32} (hw : mW M n) (hs : sW M n) : ∀ i, i ≤ n → mW (cMeS M h i) n ∧ sW (cMeS M h i) n
  | 0, _ => ⟨hw, hs⟩
  | i + 1, hi => by
    have q := cMeS_ok (h := h) hw hs i (by omega)
    have hn := hw.2
    refine ⟨⟨?_, hn⟩, ?_⟩
    · exact (cMet_at q.2 (by omega) (by omega) (fun _ _ => by omega) (by omega)).trans q.1.1
    · intro k hk
      show ¬ cMet (cMeS M h i) h i (119 + k) = -1 → cMet (cMeS M h i) h i (119 + k) = nI (iN (cMet (cMeS M h i) h i (119 + k))) ∧ iN (cMet (cMeS M h i) h i (119 + k)) < 4
      rw [cMet_at q.2 (by omega) (by omega) (fun _ _ => by omega) (by omega)]
      exact q.2 k hk
def cShA (M : Nat → Int32) (n : Nat) : Nat → (Nat → Int32)
  | 0 => M
  | b + 1 => cShL n b n (cShA M n b)
theorem cShA_ok {M : Nat → Int32} {n : Nat} (hw : mW M n) (hs : sW M n) : ∀ i, mW (cShA M n i) n ∧ sW (cShA M n i) n
  | 0 => ⟨hw, hs⟩
  | i + 1 => ⟨cShL_mW n (cShA_ok hw hs i).1, cShL_sW hw.2 n (cShA_ok hw hs i).2⟩
def cHtA (M : Nat → Int32) : Nat → (Nat → Int32)
  | 0 => M
  | b + 1 => cHt (cHtA M b) b (cHtA M b (0 + 0))
theorem cHtA_ok {M : Nat → Int32} {n : Nat} (hw : mW M n) (hs : sW M n) : ∀ i, i ≤ 4 → mW (cHtA M i) n ∧ sW (cHtA M i) n
  | 0, _ => ⟨hw, hs⟩
  | i + 1, hi => ⟨mW_upd (cHtA_ok hw hs i (by omega)).1 (by omega), sW_upd (cHtA_ok hw hs i (by omega)).2 (fun _ _ => by omega)⟩
def cTrA (M : Nat → Int32) : Nat → (Nat → Int32)
  | 0 => M
  | b + 1 => cTr (cTrA M b) b
theorem cTr_mW {M : Nat → Int32} {n b : Nat} (h : mW M n) (hb : b < 4) : mW (cTr M b) n := by
  unfold cTr
  split
  · exact h
  · split
    · exact h
    · exact mW_upd (mW_upd h (by omega)) (by omega)
theorem cTrA_mW {M : Nat → Int32} {n : Nat} (h : mW M n) : ∀ i, i ≤ 4 → mW (cTrA M i) n
  | 0, _ => h
  | i + 1, hi => cTr_mW (cTrA_mW h i (by omega)) (by omega)
/-- an hour -/
def ch1 (M : Nat → Int32) (n : Nat) : Nat → Int32 := if (cFS M n) (0 + 1) = nI 1 then cShA (cFS M n) n 4 else cFS M n
def ch2 (M : Nat → Int32) (n : Nat) : Nat → Int32 := cHtA (ch1 M n) 4
def ch3 (M : Nat → Int32) (n : Nat) : Nat → Int32 := cMeS (ch2 M n) (hrD (ch2 M n)) n
def ch4 (M : Nat → Int32) (n : Nat) : Nat → Int32 := cTrA (ch3 M n) 4
def cHr (M : Nat → Int32) (n : Nat) : Nat → Int32 := upd (ch4 M n) 3 (ch4 M n 3 + nI 1)
theorem cFS_mW {M : Nat → Int32} {n : Nat} (h : mW M n) : mW (cFS M n) n := fsS_mW (fs0_mW h 4) n
theorem cFS_sW {M : Nat → Int32} {n : Nat} (h : mW M n) : sW (cFS M n) n := fsS_sW n h.2
theorem ch1_ok {M : Nat → Int32} {n : Nat} (h : mW M n) : mW (ch1 M n) n ∧ sW (ch1 M n) n := by
  unfold ch1
  split
  · exact cShA_ok (cFS_mW h) (cFS_sW h) 4
  · exact ⟨cFS_mW h, cFS_sW h⟩
theorem ch2_ok {M : Nat → Int32} {n : Nat} (h : mW M n) : mW (ch2 M n) n ∧ sW (ch2 M n) n := cHtA_ok (ch1_ok h).1 (ch1_ok h).2 4 (Nat.le_refl 4)
theorem ch3_mW {M : Nat → Int32} {n : Nat} (h : mW M n) : mW (ch3 M n) n := (cMeS_ok (ch2_ok h).1 (ch2_ok h).2 n (Nat.le_refl n)).1
theorem cHr_mW {M : Nat → Int32} {n : Nat} (h : mW M n) : mW (cHr M n) n := mW_upd (cTrA_mW (ch3_mW h) 4 (Nat.le_refl 4)) (by omega)
def cHs (M : Nat → Int32) (n : Nat) : Nat → (Nat → Int32)
  | 0 => M
  | i + 1 => cHr (cHs M n i) n
theorem cHs_mW {M : Nat → Int32} {n : Nat} (h : mW M n) : ∀ i, mW (cHs M n i) n
  | 0 => h
  | i + 1 => cHr_mW (cHs_mW h i)
set_option maxRecDepth 100000 in
set_option maxHeartbeats 4000000 in
theorem mX0_putOn (l : Launch) (D : va_G) (ct : Nat → ClassId) (ad : Nat → Nat) (M : Nat → Int32) (b : Nat)   (hb4 : b < 4) : FMet l yX0_putOn cX0_putOn 1 (none : Option Jvm.ClassFile.FieldType) 0 0 D ct 19 ad [.ref (ad (15 + b))] (mkc ct ad M) none (mkc ct ad (cPon M b)) := by
  refine FMet.of (by decide +kernel) (Nat.le_of_ble_eq_true rfl) ?_
  intro p e s m args below meth c ls hx hb hr hml hown hlocks htg hK hI hP hS hl
  have hl : lv_has ls 1 [(0, .ref (ad (15 + b)))] := hl
  refine lv_aload_n hx hb dX0_putOn_0 rfl (lv_at hl 0 rfl) ?_
  refine lv_iconst (v := nI 1) hx hb dX0_putOn_1 (by decide) ?_
  refine mk_bp1 hx hb hown htg hK hI hS hP (by omega) (Or.inr rfl) fl_X0_15 dX0_putOn_2 (fun H locs hP hS => ?_)
  refine lv_aload_n hx hb dX0_putOn_5 rfl (lv_at hl 0 rfl) ?_
  refine lv_iconst (v := nI 0) hx hb dX0_putOn_6 (by decide) ?_
  refine mk_bp2 hx hb hown htg hK hI hS hP (by omega) fl_X0_19 dX0_putOn_7 (fun H locs hP hS => ?_)
  refine fr_vret hx hb hr hlocks hK hI hS dX0_putOn_10 ?_
  refine fP.eqc (congrArg (mkc ct ad) (show (cPon M b) = (upd (upd M (7 + 5 * b + 1) (nI 1)) (7 + 5 * b + 2) (nI 0)) from by rfl).symm) ?_
  exact hP
set_option maxRecDepth 100000 in
set_option maxHeartbeats 4000000 in
theorem mX0_carriesTooMuch (l : Launch) (D : va_G) (ct : Nat → ClassId) (ad : Nat → Nat) (M : Nat → Int32) (b : Nat)   (hb4 : b < 4) : FMet l yX0_carriesTooMuch cX0_carriesTooMuch 1 (some .boolean) 0 0 D ct 19 ad [.ref (ad (15 + b))] (mkc ct ad M) (some (.int (bi (cTm M b)))) (mkc ct ad M) := by
  refine FMet.of (by decide +kernel) (Nat.le_of_ble_eq_true rfl) ?_
  intro p e s m args below meth c ls hx hb hr hml hown hlocks htg hK hI hP hS hl
  have hl : lv_has ls 1 [(0, .ref (ad (15 + b)))] := hl
  refine lv_aload_n hx hb dX0_carriesTooMuch_0 rfl (lv_at hl 0 rfl) ?_
  refine mk_b1 hx hb hown htg hK hP (by omega) fl_X0_15 dX0_carriesTooMuch_1 ?_
  refine lv_if_eq (tgt := 22) hx hb dX0_carriesTooMuch_4 (by decide) (fun c4 => ?_) (fun c4 => ?_)
  · refine lv_iconst (v := nI 0) hx hb dX0_carriesTooMuch_22 (by decide) ?_
    refine fr_iret hx hb hr hlocks hK hI hS rfl dX0_carriesTooMuch_23 ?_ ?_
    · exact (congrArg bi (show (cTm M b) = false from by first | (exfalso; omega) | (simp only [cTm, Bool.not_true, Bool.not_false, c4, decide_true, decide_false, Bool.and_true, Bool.true_and, Bool.and_false, Bool.false_and, Bool.or_true, Bool.true_or, Bool.or_false, Bool.false_or, Bool.and_self, Bool.or_self, if_true, if_false, eq_self, Bool.false_eq_true, Bool.true_eq_false, reduceCtorEq, not_true_eq_false, not_false_eq_true, and_true, true_and, and_false, false_and, or_true, true_or, or_false, false_or, and_self, or_self, Int32.add_zero]; done) | (simp only [cTm, Bool.not_true, Bool.not_false, c4, decide_true, decide_false, Bool.and_true, Bool.true_and, Bool.and_false, Bool.false_and, Bool.or_true, Bool.true_or, Bool.or_false, Bool.false_or, Bool.and_self, Bool.or_self, if_true, if_false, eq_self, Bool.false_eq_true, Bool.true_eq_false, reduceCtorEq, not_true_eq_false, not_false_eq_true, and_true, true_and, and_false, false_and, or_true, true_or, or_false, false_or, and_self, or_self, Int32.add_zero]; rfl))).symm
    · exact hP
  · refine lv_aload_n hx hb dX0_carriesTooMuch_7 rfl (lv_at hl 0 rfl) ?_
    refine mk_b5 hx hb hown htg hK hP (by omega) fl_X0_22 dX0_carriesTooMuch_8 ?_
    refine lv_aload_n hx hb dX0_carriesTooMuch_11 rfl (lv_at hl 0 rfl) ?_
    refine mk_b0 hx hb hown htg hK hP (by omega) fl_X0_9 dX0_carriesTooMuch_12 ?_
    refine lv_icmp_leR (tgt := 22) hx hb dX0_carriesTooMuch_15 (by decide) (fun c15 => ?_) (fun c15 => ?_)
    · refine lv_iconst (v := nI 0) hx hb dX0_carriesTooMuch_22 (by decide) ?_
      refine fr_iret hx hb hr hlocks hK hI hS rfl dX0_carriesTooMuch_23 ?_ ?_
      · exact (congrArg bi (show (cTm M b) = false from by first | (exfalso; omega) | (simp only [cTm, Bool.not_true, Bool.not_false, c4, c15, Int32.not_lt.mpr c15, decide_true, decide_false, Bool.and_true, Bool.true_and, Bool.and_false, Bool.false_and, Bool.or_true, Bool.true_or, Bool.or_false, Bool.false_or, Bool.and_self, Bool.or_self, if_true, if_false, eq_self, Bool.false_eq_true, Bool.true_eq_false, reduceCtorEq, not_true_eq_false, not_false_eq_true, and_true, true_and, and_false, false_and, or_true, true_or, or_false, false_or, and_self, or_self, Int32.add_zero]; done) | (simp only [cTm, Bool.not_true, Bool.not_false, c4, c15, Int32.not_lt.mpr c15, decide_true, decide_false, Bool.and_true, Bool.true_and, Bool.and_false, Bool.false_and, Bool.or_true, Bool.true_or, Bool.or_false, Bool.false_or, Bool.and_self, Bool.or_self, if_true, if_false, eq_self, Bool.false_eq_true, Bool.true_eq_false, reduceCtorEq, not_true_eq_false, not_false_eq_true, and_true, true_and, and_false, false_and, or_true, true_or, or_false, false_or, and_self, or_self, Int32.add_zero]; rfl))).symm
      · exact hP
    · refine lv_iconst (v := nI 1) hx hb dX0_carriesTooMuch_18 (by decide) ?_
      refine lv_goto (tgt := 23) hx hb dX0_carriesTooMuch_19 (by decide) ?_
      refine fr_iret hx hb hr hlocks hK hI hS rfl dX0_carriesTooMuch_23 ?_ ?_
      · exact (congrArg bi (show (cTm M b) = true from by first | (exfalso; omega) | (simp only [cTm, Bool.not_true, Bool.not_false, c4, c15, Int32.not_le.mpr c15, decide_true, decide_false, Bool.and_true, Bool.true_and, Bool.and_false, Bool.false_and, Bool.or_true, Bool.true_or, Bool.or_false, Bool.false_or, Bool.and_self, Bool.or_self, if_true, if_false, eq_self, Bool.false_eq_true, Bool.true_eq_false, reduceCtorEq, not_true_eq_false, not_false_eq_true, and_true, true_and, and_false, false_and, or_true, true_or, or_false, false_or, and_self, or_self, Int32.add_zero]; done) | (simp only [cTm, Bool.not_true, Bool.not_false, c4, c15, Int32.not_le.mpr c15, decide_true, decide_false, Bool.and_true, Bool.true_and, Bool.and_false, Bool.false_and, Bool.or_true, Bool.true_or, Bool.or_false, Bool.false_or, Bool.and_self, Bool.or_self, if_true, if_false, eq_self, Bool.false_eq_true, Bool.true_eq_false, reduceCtorEq, not_true_eq_false, not_false_eq_true, and_true, true_and, and_false, false_and, or_true, true_or, or_false, false_or, and_self, or_self, Int32.add_zero]; rfl))).symm
      · exact hP
set_option maxRecDepth 100000 in
set_option maxHeartbeats 4000000 in
theorem mX0_heatOrCool (l : Launch) (D : va_G) (ct : Nat → ClassId) (ad : Nat → Nat) (M : Nat → Int32) (b : Nat) (h : Int32)  (hb4 : b < 4) : FMet l yX0_heatOrCool cX0_heatOrCool 2 (none : Option Jvm.ClassFile.FieldType) 1 24 D ct 19 ad [.ref (ad (15 + b)), .int (h)] (mkc ct ad M) none (mkc ct ad (cHt M b h)) := by
  refine FMet.of (by decide +kernel) (Nat.le_of_ble_eq_true rfl) ?_
  intro p e s m args below meth c ls hx hb hr hml hown hlocks htg hK hI hP hS hl
  have hl : lv_has ls 2 [(0, .ref (ad (15 + b))), (1, .int (h))] := hl
  refine lv_aload_n hx hb dX0_heatOrCool_0 rfl (lv_at hl 0 rfl) ?_
  refine mk_cbr (As := []) (rest := []) (by omega) hx hb hown htg hK hI hS hP hml hl.1 (mX0_carriesTooMuch l D ct ad _ b (by omega)) cw_X0_25 rfl rfl ⟨Nat.le_of_ble_eq_true rfl, Nat.le_of_ble_eq_true rfl⟩ (Nat.le_of_ble_eq_true rfl) dX0_heatOrCool_1 ⟨Nat.le_refl _, Nat.le_refl _⟩ (fun H locs hP hS => ?_)
  refine lv_ifeqB (tgt := 33) hx hb dX0_heatOrCool_4 (by decide) (fun c4 => ?_) (fun c4 => ?_)
  · refine lv_aload_n hx hb dX0_heatOrCool_33 rfl (lv_at hl 0 rfl) ?_
    refine lv_iconst (v := nI 0) hx hb dX0_heatOrCool_34 (by decide) ?_
    refine lv_aload_n hx hb dX0_heatOrCool_35 rfl (lv_at hl 0 rfl) ?_
    refine mk_b2 hx hb hown htg hK hP (by omega) fl_X0_19 dX0_heatOrCool_36 ?_
    refine lv_iload_n hx hb dX0_heatOrCool_39 rfl (lv_at hl 1 rfl) ?_
    refine lv_isub hx hb dX0_heatOrCool_40 ?_
    refine va_mmax hx hb (hml.trans hl.1.symm) hown (htg _ kmx1) (htg _ kmx2) (htg _ kmx3) (htg _ kmx4) (Nat.le_of_ble_eq_true rfl) (Nat.le_of_ble_eq_true rfl) (Nat.le_refl _) (Nat.le_refl _) dX0_heatOrCool_41 ?_
    refine mk_bp2 hx hb hown htg hK hI hS hP (by omega) fl_X0_19 dX0_heatOrCool_44 (fun H locs hP hS => ?_)
    refine fr_vret hx hb hr hlocks hK hI hS dX0_heatOrCool_47 ?_
    refine fP.eqc (congrArg (mkc ct ad) (show (cHt M b h) = (upd M (7 + 5 * b + 2) (if (nI 0) < ((M (7 + 5 * b + 2)) - h) then ((M (7 + 5 * b + 2)) - h) else (nI 0))) from by first | (exfalso; omega) | (simp only [cHt, c4, decide_true, decide_false, Bool.and_true, Bool.true_and, Bool.and_false, Bool.false_and, Bool.or_true, Bool.true_or, Bool.or_false, Bool.false_or, Bool.and_self, Bool.or_self, if_true, if_false, eq_self, Bool.false_eq_true, Bool.true_eq_false, reduceCtorEq, not_true_eq_false, not_false_eq_true, and_true, true_and, and_false, false_and, or_true, true_or, or_false, false_or, and_self, or_self, Int32.add_zero]; done) | (simp only [cHt, c4, decide_true, decide_false, Bool.and_true, Bool.true_and, Bool.and_false, Bool.false_and, Bool.or_true, Bool.true_or, Bool.or_false, Bool.false_or, Bool.and_self, Bool.or_self, if_true, if_false, eq_self, Bool.false_eq_true, Bool.true_eq_false, reduceCtorEq, not_true_eq_false, not_false_eq_true, and_true, true_and, and_false, false_and, or_true, true_or, or_false, false_or, and_self, or_self, Int32.add_zero]; rfl)).symm) ?_
    exact hP
  · refine lv_aload_n hx hb dX0_heatOrCool_7 rfl (lv_at hl 0 rfl) ?_
    refine lv_dup hx hb dX0_heatOrCool_8 rfl ?_
    refine mk_b2 hx hb hown htg hK hP (by omega) fl_X0_19 dX0_heatOrCool_9 ?_
    refine lv_aload_n hx hb dX0_heatOrCool_12 rfl (lv_at hl 0 rfl) ?_
    refine mk_b5 hx hb hown htg hK hP (by omega) fl_X0_22 dX0_heatOrCool_13 ?_
    refine lv_aload_n hx hb dX0_heatOrCool_16 rfl (lv_at hl 0 rfl) ?_
    refine mk_b0 hx hb hown htg hK hP (by omega) fl_X0_9 dX0_heatOrCool_17 ?_
    refine lv_isub hx hb dX0_heatOrCool_20 ?_
    refine lv_bipush (v := nI 10) hx hb dX0_heatOrCool_21 (by decide) ?_
    refine lv_idiv hx hb dX0_heatOrCool_23 (by decide) ?_
    refine lv_iconst (v := nI 1) hx hb dX0_heatOrCool_24 (by decide) ?_
    refine lv_iadd hx hb dX0_heatOrCool_25 ?_
    refine lv_iadd hx hb dX0_heatOrCool_26 ?_
    refine mk_bp2 hx hb hown htg hK hI hS hP (by omega) fl_X0_19 dX0_heatOrCool_27 (fun H locs hP hS => ?_)
    refine lv_goto (tgt := 47) hx hb dX0_heatOrCool_30 (by decide) ?_
    refine fr_vret hx hb hr hlocks hK hI hS dX0_heatOrCool_47 ?_
    refine fP.eqc (congrArg (mkc ct ad) (show (cHt M b h) = (upd M (7 + 5 * b + 2) ((M (7 + 5 * b + 2)) + ((((M (129 + b)) - (M (7 + 5 * b + 0))) / (nI 10)) + (nI 1)))) from by first | (exfalso; omega) | (simp only [cHt, c4, decide_true, decide_false, Bool.and_true, Bool.true_and, Bool.and_false, Bool.false_and, Bool.or_true, Bool.true_or, Bool.or_false, Bool.false_or, Bool.and_self, Bool.or_self, if_true, if_false, eq_self, Bool.false_eq_true, Bool.true_eq_false, reduceCtorEq, not_true_eq_false, not_false_eq_true, and_true, true_and, and_false, false_and, or_true, true_or, or_false, false_or, and_self, or_self, Int32.add_zero]; done) | (simp only [cHt, c4, decide_true, decide_false, Bool.and_true, Bool.true_and, Bool.and_false, Bool.false_and, Bool.or_true, Bool.true_or, Bool.or_false, Bool.false_or, Bool.and_self, Bool.or_self, if_true, if_false, eq_self, Bool.false_eq_true, Bool.true_eq_false, reduceCtorEq, not_true_eq_false, not_false_eq_true, and_true, true_and, and_false, false_and, or_true, true_or, or_false, false_or, and_self, or_self, Int32.add_zero]; rfl)).symm) ?_
    exact hP
set_option maxRecDepth 100000 in
set_option maxHeartbeats 4000000 in
theorem mX0_tripIfHot (l : Launch) (D : va_G) (ct : Nat → ClassId) (ad : Nat → Nat) (M : Nat → Int32) (b : Nat)   (hb4 : b < 4) : FMet l yX0_tripIfHot cX0_tripIfHot 1 (none : Option Jvm.ClassFile.FieldType) 0 0 D ct 19 ad [.ref (ad (15 + b))] (mkc ct ad M) none (mkc ct ad (cTr M b)) := by
  refine FMet.of (by decide +kernel) (Nat.le_of_ble_eq_true rfl) ?_
  intro p e s m args below meth c ls hx hb hr hml hown hlocks htg hK hI hP hS hl
  have hl : lv_has ls 1 [(0, .ref (ad (15 + b)))] := hl
  refine lv_aload_n hx hb dX0_tripIfHot_0 rfl (lv_at hl 0 rfl) ?_
  refine mk_b1 hx hb hown htg hK hP (by omega) fl_X0_15 dX0_tripIfHot_1 ?_
  refine lv_if_eq (tgt := 31) hx hb dX0_tripIfHot_4 (by decide) (fun c4 => ?_) (fun c4 => ?_)
  · refine fr_vret hx hb hr hlocks hK hI hS dX0_tripIfHot_31 ?_
    refine fP.eqc (congrArg (mkc ct ad) (show (cTr M b) = M from by first | (exfalso; omega) | (simp only [cTr, c4, decide_true, decide_false, Bool.and_true, Bool.true_and, Bool.and_false, Bool.false_and, Bool.or_true, Bool.true_or, Bool.or_false, Bool.false_or, Bool.and_self, Bool.or_self, if_true, if_false, eq_self, Bool.false_eq_true, Bool.true_eq_false, reduceCtorEq, not_true_eq_false, not_false_eq_true, and_true, true_and, and_false, false_and, or_true, true_or, or_false, false_or, and_self, or_self, Int32.add_zero]; done) | (simp only [cTr, c4, decide_true, decide_false, Bool.and_true, Bool.true_and, Bool.and_false, Bool.false_and, Bool.or_true, Bool.true_or, Bool.or_false, Bool.false_or, Bool.and_self, Bool.or_self, if_true, if_false, eq_self, Bool.false_eq_true, Bool.true_eq_false, reduceCtorEq, not_true_eq_false, not_false_eq_true, and_true, true_and, and_false, false_and, or_true, true_or, or_false, false_or, and_self, or_self, Int32.add_zero]; rfl)).symm) ?_
    exact hP
  · refine lv_aload_n hx hb dX0_tripIfHot_7 rfl (lv_at hl 0 rfl) ?_
    refine mk_b2 hx hb hown htg hK hP (by omega) fl_X0_19 dX0_tripIfHot_8 ?_
    refine lv_bipush (v := nI 9) hx hb dX0_tripIfHot_11 (by decide) ?_
    refine lv_icmp_leR (tgt := 31) hx hb dX0_tripIfHot_13 (by decide) (fun c13 => ?_) (fun c13 => ?_)
    · refine fr_vret hx hb hr hlocks hK hI hS dX0_tripIfHot_31 ?_
      refine fP.eqc (congrArg (mkc ct ad) (show (cTr M b) = M from by first | (exfalso; omega) | (simp only [cTr, c4, c13, Int32.not_lt.mpr c13, decide_true, decide_false, Bool.and_true, Bool.true_and, Bool.and_false, Bool.false_and, Bool.or_true, Bool.true_or, Bool.or_false, Bool.false_or, Bool.and_self, Bool.or_self, if_true, if_false, eq_self, Bool.false_eq_true, Bool.true_eq_false, reduceCtorEq, not_true_eq_false, not_false_eq_true, and_true, true_and, and_false, false_and, or_true, true_or, or_false, false_or, and_self, or_self, Int32.add_zero]; done) | (simp only [cTr, c4, c13, Int32.not_lt.mpr c13, decide_true, decide_false, Bool.and_true, Bool.true_and, Bool.and_false, Bool.false_and, Bool.or_true, Bool.true_or, Bool.or_false, Bool.false_or, Bool.and_self, Bool.or_self, if_true, if_false, eq_self, Bool.false_eq_true, Bool.true_eq_false, reduceCtorEq, not_true_eq_false, not_false_eq_true, and_true, true_and, and_false, false_and, or_true, true_or, or_false, false_or, and_self, or_self, Int32.add_zero]; rfl)).symm) ?_
      exact hP
    · refine lv_aload_n hx hb dX0_tripIfHot_16 rfl (lv_at hl 0 rfl) ?_
      refine lv_iconst (v := nI 0) hx hb dX0_tripIfHot_17 (by decide) ?_
      refine mk_bp1 hx hb hown htg hK hI hS hP (by omega) (Or.inl rfl) fl_X0_15 dX0_tripIfHot_18 (fun H locs hP hS => ?_)
      refine lv_aload_n hx hb dX0_tripIfHot_21 rfl (lv_at hl 0 rfl) ?_
      refine lv_dup hx hb dX0_tripIfHot_22 rfl ?_
      refine mk_b3 hx hb hown htg hK hP (by omega) fl_X0_35 dX0_tripIfHot_23 ?_
      refine lv_iconst (v := nI 1) hx hb dX0_tripIfHot_26 (by decide) ?_
      refine lv_iadd hx hb dX0_tripIfHot_27 ?_
      refine mk_bp3 hx hb hown htg hK hI hS hP (by omega) fl_X0_35 dX0_tripIfHot_28 (fun H locs hP hS => ?_)
      refine fr_vret hx hb hr hlocks hK hI hS dX0_tripIfHot_31 ?_
      refine fP.eqc (congrArg (mkc ct ad) (show (cTr M b) = (upd (upd M (7 + 5 * b + 1) (nI 0)) (7 + 5 * b + 3) (((upd M (7 + 5 * b + 1) (nI 0)) (7 + 5 * b + 3)) + (nI 1))) from by first | (exfalso; omega) | (simp only [cTr, c4, c13, Int32.not_le.mpr c13, decide_true, decide_false, Bool.and_true, Bool.true_and, Bool.and_false, Bool.false_and, Bool.or_true, Bool.true_or, Bool.or_false, Bool.false_or, Bool.and_self, Bool.or_self, if_true, if_false, eq_self, Bool.false_eq_true, Bool.true_eq_false, reduceCtorEq, not_true_eq_false, not_false_eq_true, and_true, true_and, and_false, false_and, or_true, true_or, or_false, false_or, and_self, or_self, Int32.add_zero]; done) | (simp only [cTr, c4, c13, Int32.not_le.mpr c13, decide_true, decide_false, Bool.and_true, Bool.true_and, Bool.and_false, Bool.false_and, Bool.or_true, Bool.true_or, Bool.or_false, Bool.false_or, Bool.and_self, Bool.or_self, if_true, if_false, eq_self, Bool.false_eq_true, Bool.true_eq_false, reduceCtorEq, not_true_eq_false, not_false_eq_true, and_true, true_and, and_false, false_and, or_true, true_or, or_false, false_or, and_self, or_self, Int32.add_zero]; rfl)).symm) ?_
      exact hP
set_option maxRecDepth 100000 in
set_option maxHeartbeats 4000000 in
theorem mX4_begin (l : Launch) (D : va_G) (ct : Nat → ClassId) (ad : Nat → Nat) (M : Nat → Int32) (k : Nat) (a0 : Int32) (a1 : Int32) (a2 : Int32) (a3 : Int32)  (hk : k < 10) : FMet l yX4_begin cX4_begin 5 (none : Option Jvm.ClassFile.FieldType) 0 0 D ct 19 ad [.ref (ad (5 + k)), .int (a0), .int (a1), .int (a2), .int (a3)] (mkc ct ad M) none (mkc ct ad (cBeg M k a0 a1 a2 a3)) := by
  refine FMet.of (by decide +kernel) (Nat.le_of_ble_eq_true rfl) ?_
  intro p e s m args below meth c ls hx hb hr hml hown hlocks htg hK hI hP hS hl
  have hl : lv_has ls 5 [(0, .ref (ad (5 + k))), (1, .int (a0)), (2, .int (a1)), (3, .int (a2)), (4, .int (a3))] := hl
  refine lv_aload_n hx hb dX4_begin_0 rfl (lv_at hl 0 rfl) ?_
  refine lv_iload_n hx hb dX4_begin_1 rfl (lv_at hl 1 rfl) ?_
  refine mk_sp0 hx hb hown htg hK hI hS hP (by omega) fl_X4_24 dX4_begin_2 (fun H locs hP hS => ?_)
  refine lv_aload_n hx hb dX4_begin_5 rfl (lv_at hl 0 rfl) ?_
  refine lv_iload_n hx hb dX4_begin_6 rfl (lv_at hl 2 rfl) ?_
  refine mk_sp1 hx hb hown htg hK hI hS hP (by omega) fl_X4_21 dX4_begin_7 (fun H locs hP hS => ?_)
  refine lv_aload_n hx hb dX4_begin_10 rfl (lv_at hl 0 rfl) ?_
  refine lv_iload_n hx hb dX4_begin_11 rfl (lv_at hl 3 rfl) ?_
  refine mk_sp2 hx hb hown htg hK hI hS hP (by omega) fl_X4_18 dX4_begin_12 (fun H locs hP hS => ?_)
  refine lv_aload_n hx hb dX4_begin_15 rfl (lv_at hl 0 rfl) ?_
  refine lv_iload hx hb dX4_begin_16 (lv_at hl 4 rfl) ?_
  refine mk_sp3 hx hb hown htg hK hI hS hP (by omega) fl_X4_27 dX4_begin_18 (fun H locs hP hS => ?_)
  refine lv_aload_n hx hb dX4_begin_21 rfl (lv_at hl 0 rfl) ?_
  refine lv_iconst (v := -1) hx hb dX4_begin_22 (by decide) ?_
  refine mk_sp4 hx hb hown htg hK hI hS hP (by omega) fl_X4_9 dX4_begin_23 (fun H locs hP hS => ?_)
  refine lv_aload_n hx hb dX4_begin_26 rfl (lv_at hl 0 rfl) ?_
  refine lv_iconst (v := nI 0) hx hb dX4_begin_27 (by decide) ?_
  refine mk_sp5 hx hb hown htg hK hI hS hP (by omega) (Or.inl rfl) fl_X4_30 dX4_begin_28 (fun H locs hP hS => ?_)
  refine lv_aload_n hx hb dX4_begin_31 rfl (lv_at hl 0 rfl) ?_
  refine lv_iconst (v := nI 0) hx hb dX4_begin_32 (by decide) ?_
  refine mk_sp6 hx hb hown htg hK hI hS hP (by omega) fl_X4_34 dX4_begin_33 (fun H locs hP hS => ?_)
  refine lv_aload_n hx hb dX4_begin_36 rfl (lv_at hl 0 rfl) ?_
  refine lv_iconst (v := nI 0) hx hb dX4_begin_37 (by decide) ?_
  refine mk_sp7 hx hb hown htg hK hI hS hP (by omega) fl_X4_37 dX4_begin_38 (fun H locs hP hS => ?_)
  refine fr_vret hx hb hr hlocks hK hI hS dX4_begin_41 ?_
  refine fP.eqc (congrArg (mkc ct ad) (show (cBeg M k a0 a1 a2 a3) = (upd (upd (upd (upd (upd (upd (upd (upd M (39 + 8 * k + 0) a0) (39 + 8 * k + 1) a1) (39 + 8 * k + 2) a2) (39 + 8 * k + 3) a3) (39 + 8 * k + 4) (-1)) (39 + 8 * k + 5) (nI 0)) (39 + 8 * k + 6) (nI 0)) (39 + 8 * k + 7) (nI 0)) from by rfl).symm) ?_
  exact hP
set_option maxRecDepth 100000 in
set_option maxHeartbeats 4000000 in
theorem mX2_add (l : Launch) (D : va_G) (ct : Nat → ClassId) (ad : Nat → Nat) (M : Nat → Int32) (a0 : Int32) (a1 : Int32) (a2 : Int32) (a3 : Int32) (n : Nat) (hw : mW M n) (hn : n < 10) : FMet l yX2_add cX2_add 6 (some .int) 1 24 D ct 19 ad [.ref (ad 0), .int (a0), .int (a1), .int (a2), .int (a3)] (mkc ct ad M) (some (.int (nI n))) (mkc ct ad (upd (cBeg M n a0 a1 a2 a3) 4 (nI (n + 1)))) := by
  refine FMet.of (by decide +kernel) (Nat.le_of_ble_eq_true rfl) ?_
  intro p e s m args below meth c ls hx hb hr hml hown hlocks htg hK hI hP hS hl
  have hl : lv_has ls 6 [(0, .ref (ad 0)), (1, .int (a0)), (2, .int (a1)), (3, .int (a2)), (4, .int (a3))] := hl
  have hn10 := hw.2
  refine lv_aload_n hx hb dX2_add_0 rfl (lv_at hl 0 rfl) ?_
  refine mk_g1 hx hb hown htg hK hP fl_X2_41 dX2_add_1 ?_
  refine lv_teq (hw).1 ?_
  refine lv_istore (lv' := [(5, .int (nI n)), (0, .ref (ad 0)), (1, .int (a0)), (2, .int (a1)), (3, .int (a2)), (4, .int (a3))]) hx hb dX2_add_4 hl (by decide) rfl (fun ls hl => ?_)
  refine lv_aload_n hx hb dX2_add_6 rfl (lv_at hl 1 rfl) ?_
  refine mk_g0 hx hb hown htg hK hP fl_X2_11 dX2_add_7 ?_
  refine lv_iload hx hb dX2_add_10 (lv_at hl 0 rfl) ?_
  refine mk_as hx hb hK hP (by omega) dX2_add_12 ?_
  refine lv_iload_n hx hb dX2_add_13 rfl (lv_at hl 2 rfl) ?_
  refine lv_iload_n hx hb dX2_add_14 rfl (lv_at hl 3 rfl) ?_
  refine lv_iload_n hx hb dX2_add_15 rfl (lv_at hl 4 rfl) ?_
  refine lv_iload hx hb dX2_add_16 (lv_at hl 5 rfl) ?_
  refine mk_cs0 (As := [.int (a0), .int (a1), .int (a2), .int (a3)]) (rest := []) (by omega) hx hb hown htg hK hI hS hP hml hl.1 (mX4_begin l D ct ad _ n a0 a1 a2 a3 (by omega)) cw_X2_67 rfl rfl ⟨Nat.le_of_ble_eq_true rfl, Nat.le_of_ble_eq_true rfl⟩ (Nat.le_of_ble_eq_true rfl) dX2_add_18 ⟨Nat.le_refl _, Nat.le_refl _⟩ (fun H locs hP hS => ?_)
  refine lv_aload_n hx hb dX2_add_21 rfl (lv_at hl 1 rfl) ?_
  refine lv_dup hx hb dX2_add_22 rfl ?_
  refine mk_g1 hx hb hown htg hK hP fl_X2_41 dX2_add_23 ?_
  refine lv_teq (cBeg_mW hw).1 ?_
  refine lv_iconst (v := nI 1) hx hb dX2_add_26 (by decide) ?_
  refine lv_iaddN hx hb dX2_add_27 ?_
  refine mk_p1 hx hb hown htg hK hI hS hP fl_X2_41 dX2_add_28 (fun H locs hP hS => ?_)
  refine lv_iload hx hb dX2_add_31 (lv_at hl 0 rfl) ?_
  refine fr_iret hx hb hr hlocks hK hI hS rfl dX2_add_33 ?_ ?_
  · exact rfl
  · refine fP.eqc (congrArg (mkc ct ad) (show (upd (cBeg M n a0 a1 a2 a3) 4 (nI (n + 1))) = (upd (cBeg M n a0 a1 a2 a3) (4) (nI (n + 1))) from by rfl).symm) ?_
    exact hP
set_option maxRecDepth 100000 in
set_option maxHeartbeats 4000000 in
theorem mX2_move (l : Launch) (D : va_G) (ct : Nat → ClassId) (ad : Nat → Nat) (M : Nat → Int32) (k : Nat) (q : Int32)  (hk : k < 10) : FMet l yX2_move cX2_move 4 (some .int) 0 0 D ct 19 ad [.ref (ad 0), .int (nI k), .int (q)] (mkc ct ad M) (some (.int (M (39 + 8 * k + 4)))) (mkc ct ad (upd M (39 + 8 * k + 4) q)) := by
  refine FMet.of (by decide +kernel) (Nat.le_of_ble_eq_true rfl) ?_
  intro p e s m args below meth c ls hx hb hr hml hown hlocks htg hK hI hP hS hl
  have hl : lv_has ls 4 [(0, .ref (ad 0)), (1, .int (nI k)), (2, .int (q))] := hl
  refine lv_aload_n hx hb dX2_move_0 rfl (lv_at hl 0 rfl) ?_
  refine mk_g0 hx hb hown htg hK hP fl_X2_11 dX2_move_1 ?_
  refine lv_iload_n hx hb dX2_move_4 rfl (lv_at hl 1 rfl) ?_
  refine mk_as hx hb hK hP (by omega) dX2_move_5 ?_
  refine mk_s4 hx hb hown htg hK hP (by omega) fl_X2_71 dX2_move_6 ?_
  refine lv_istore_n (lv' := [(3, .int (M (39 + 8 * k + 4))), (0, .ref (ad 0)), (1, .int (nI k)), (2, .int (q))]) hx hb dX2_move_9 rfl hl (by decide) rfl (fun ls hl => ?_)
  refine lv_aload_n hx hb dX2_move_10 rfl (lv_at hl 1 rfl) ?_
  refine mk_g0 hx hb hown htg hK hP fl_X2_11 dX2_move_11 ?_
  refine lv_iload_n hx hb dX2_move_14 rfl (lv_at hl 2 rfl) ?_
  refine mk_as hx hb hK hP (by omega) dX2_move_15 ?_
  refine lv_iload_n hx hb dX2_move_16 rfl (lv_at hl 3 rfl) ?_
  refine mk_sp4 hx hb hown htg hK hI hS hP (by omega) fl_X2_71 dX2_move_17 (fun H locs hP hS => ?_)
  refine lv_iload_n hx hb dX2_move_20 rfl (lv_at hl 0 rfl) ?_
  refine fr_iret hx hb hr hlocks hK hI hS rfl dX2_move_21 ?_ ?_
  · exact rfl
  · exact hP
set_option maxRecDepth 100000 in
set_option maxHeartbeats 4000000 in
theorem mX2_findSources (l : Launch) (D : va_G) (ct : Nat → ClassId) (ad : Nat → Nat) (M : Nat → Int32)  (n : Nat) (hw : mW M n) : FMet l yX2_findSources cX2_findSources 3 (none : Option Jvm.ClassFile.FieldType) 2 43 D ct 19 ad [.ref (ad 0)] (mkc ct ad M) none (mkc ct ad (cFS M n)) := by
  refine FMet.of (by decide +kernel) (Nat.le_of_ble_eq_true rfl) ?_
  intro p e s m args below meth c ls hx hb hr hml hown hlocks htg hK hI hP hS hl
  have hl : lv_has ls 3 [(0, .ref (ad 0))] := hl
  have hn10 := hw.2
  refine lv_iconst (v := nI 0) hx hb dX2_findSources_0 (by decide) ?_
  refine lv_istore_n (lv' := [(1, .int (nI 0)), (0, .ref (ad 0))]) hx hb dX2_findSources_1 rfl hl (by decide) rfl (fun ls hl => ?_)
  have lp2 : ∀ (fu2 : Nat) (i : Nat), i ≤ 4 → 4 - i < fu2 → ∀ (H : Heap) (locs : List Loc), fP D 19 ad (mkc ct ad (fs0 M i)) H → va_S (fA 19 ad) s.heap H locs → ∀ (ls : Array Slot), lv_has ls 3 [(1, .int (nI i)), (0, .ref (ad 0))] → W p l e ({ frames := 2, cells := 0, slots := 0, locals := 43 }) s m args below meth c H locs 0 0 (MQ below (fQ D ct 19 ad none (mkc ct ad (cFS M n))) args s 0 0 (fA 19 ad)) (F0 m 2 ls []) := by
    intro fu2
    induction fu2 with
    | zero => intro i hi hfu2; exact absurd hfu2 (Nat.not_lt_zero _)
    | succ fu2 ih2 =>
      intro i hi hfu2 H locs hP hS ls hl
      refine lv_iload_n hx hb dX2_findSources_2 rfl (lv_at hl 0 rfl) ?_
      refine lv_iconst (v := nI 4) hx hb dX2_findSources_3 (by decide) ?_
      refine lv_icmp_geN (tgt := 23) hx hb (by omega) (by omega) dX2_findSources_4 (by decide) (fun c4 => ?_) (fun c4 => ?_)
      · obtain rfl : i = 4 := by omega
        refine lv_iconst (v := nI 0) hx hb dX2_findSources_23 (by decide) ?_
        refine lv_istore_n (lv' := [(1, .int (nI 0)), (0, .ref (ad 0))]) hx hb dX2_findSources_24 rfl hl (by decide) rfl (fun ls hl => ?_)
        have lp25 : ∀ (fu25 : Nat) (i : Nat), i ≤ n → n - i < fu25 → ∀ (H : Heap) (locs : List Loc), fP D 19 ad (mkc ct ad (fsS (fs0 M 4) i)) H → va_S (fA 19 ad) s.heap H locs → ∀ (ls : Array Slot), lv_has ls 3 [(1, .int (nI i)), (0, .ref (ad 0))] → W p l e ({ frames := 2, cells := 0, slots := 0, locals := 43 }) s m args below meth c H locs 0 0 (MQ below (fQ D ct 19 ad none (mkc ct ad (cFS M n))) args s 0 0 (fA 19 ad)) (F0 m 25 ls []) := by
          intro fu25
          induction fu25 with
          | zero => intro i hi hfu25; exact absurd hfu25 (Nat.not_lt_zero _)
          | succ fu25 ih25 =>
            intro i hi hfu25 H locs hP hS ls hl
            refine lv_iload_n hx hb dX2_findSources_25 rfl (lv_at hl 0 rfl) ?_
            refine lv_aload_n hx hb dX2_findSources_26 rfl (lv_at hl 1 rfl) ?_
            refine mk_g1 hx hb hown htg hK hP fl_X2_41 dX2_findSources_27 ?_
            refine lv_teq (fsS_mW (fs0_mW hw 4) i).1 ?_
            refine lv_icmp_geN (tgt := 84) hx hb (by omega) (by omega) dX2_findSources_30 (by decide) (fun c30 => ?_) (fun c30 => ?_)
            · have e9 : n = i := by omega
              subst e9
              refine fr_vret hx hb hr hlocks hK hI hS dX2_findSources_84 ?_
              refine fP.eqc (congrArg (mkc ct ad) (show (cFS M n) = (fsS (fs0 M 4) n) from by rfl).symm) ?_
              exact hP
            · refine lv_aload_n hx hb dX2_findSources_33 rfl (lv_at hl 1 rfl) ?_
              refine mk_g0 hx hb hown htg hK hP fl_X2_11 dX2_findSources_34 ?_
              refine lv_iload_n hx hb dX2_findSources_37 rfl (lv_at hl 0 rfl) ?_
              refine mk_as hx hb hK hP (by omega) dX2_findSources_38 ?_
              refine lv_astore_n (lv' := [(2, .ref (ad (5 + i))), (1, .int (nI i)), (0, .ref (ad 0))]) hx hb dX2_findSources_39 rfl hl (by decide) rfl (fun ls hl => ?_)
              refine lv_aload_n hx hb dX2_findSources_40 rfl (lv_at hl 0 rfl) ?_
              refine lv_aload_n hx hb dX2_findSources_41 rfl (lv_at hl 2 rfl) ?_
              refine lv_aload_n hx hb dX2_findSources_42 rfl (lv_at hl 0 rfl) ?_
              refine mk_cmr (As := [.ref (ad (5 + i))]) (rest := [.ref (ad (5 + i))]) hx hb hown htg hK hI hS hP hml hl.1 (mX2_sourceOf l D ct ad _ i (by omega)) cw_X2_96 rfl rfl ⟨Nat.le_of_ble_eq_true rfl, Nat.le_of_ble_eq_true rfl⟩ (Nat.le_of_ble_eq_true rfl) dX2_findSources_43 ⟨Nat.le_refl _, Nat.le_refl _⟩ (fun H locs hP hS => ?_)
              refine mk_sp8 hx hb hown htg hK hI hS hP (by omega) fl_X2_100 dX2_findSources_46 (fun H locs hP hS => ?_)
              refine lv_aload_n hx hb dX2_findSources_49 rfl (lv_at hl 0 rfl) ?_
              refine mk_s8 hx hb hown htg hK hP (by omega) fl_X2_100 dX2_findSources_50 ?_
              refine lv_teq upd_s ?_
              refine lv_iconst (v := -1) hx hb dX2_findSources_53 (by decide) ?_
              refine lv_icmp_eq (tgt := 78) hx hb dX2_findSources_54 (by decide) (fun c54 => ?_) (fun c54 => ?_)
              · refine lv_iinc (v := nI (i + 1)) (lv' := [(1, .int (nI (i + 1))), (2, .ref (ad (5 + i))), (0, .ref (ad 0))]) hx hb dX2_findSources_78 hl (k := 1) rfl (nI_add i 1) (by decide) rfl (fun ls hl => ?_)
                refine lv_goto (tgt := 25) hx hb dX2_findSources_81 (by decide) ?_
                have hl := lv_sub (l' := [(1, .int (nI (i + 1))), (0, .ref (ad 0))]) hl [0, 2] rfl
                have hP := fP.eqc (congrArg (mkc ct ad) (show (upd (fsS (fs0 M 4) i) (119 + i) (cSrc (fsS (fs0 M 4) i) i)) = (fsS (fs0 M 4) (i + 1)) from by first | (exfalso; omega) | (simp only [fsS, fsP, c4, Nat.not_lt.mpr c4, c30, Nat.not_le.mpr c30, c54, decide_true, decide_false, Bool.and_true, Bool.true_and, Bool.and_false, Bool.false_and, Bool.or_true, Bool.true_or, Bool.or_false, Bool.false_or, Bool.and_self, Bool.or_self, if_true, if_false, eq_self, Bool.false_eq_true, Bool.true_eq_false, reduceCtorEq, not_true_eq_false, not_false_eq_true, and_true, true_and, and_false, false_and, or_true, true_or, or_false, false_or, and_self, or_self, Int32.add_zero]; done) | (simp only [fsS, fsP, c4, Nat.not_lt.mpr c4, c30, Nat.not_le.mpr c30, c54, decide_true, decide_false, Bool.and_true, Bool.true_and, Bool.and_false, Bool.false_and, Bool.or_true, Bool.true_or, Bool.or_false, Bool.false_or, Bool.and_self, Bool.or_self, if_true, if_false, eq_self, Bool.false_eq_true, Bool.true_eq_false, reduceCtorEq, not_true_eq_false, not_false_eq_true, and_true, true_and, and_false, false_and, or_true, true_or, or_false, false_or, and_self, or_self, Int32.add_zero]; rfl))) hP
                exact ih25 (i + 1) (by omega) (by omega) _ _ hP hS _ hl
              · have hs9 := cSrc_n c54
                have hs49 := hs9.2
                refine lv_aload_n hx hb dX2_findSources_57 rfl (lv_at hl 2 rfl) ?_
                refine mk_g2 hx hb hown htg hK hP fl_X2_19 dX2_findSources_58 ?_
                refine lv_aload_n hx hb dX2_findSources_61 rfl (lv_at hl 0 rfl) ?_
                refine mk_s8 hx hb hown htg hK hP (by omega) fl_X2_100 dX2_findSources_62 ?_
                refine lv_teq (upd_s.trans hs9.1) ?_
                refine mk_ab hx hb hK hP (by omega) dX2_findSources_65 ?_
                refine lv_dup hx hb dX2_findSources_66 rfl ?_
                refine mk_b5 hx hb hown htg hK hP (by omega) fl_X2_93 dX2_findSources_67 ?_
                refine lv_aload_n hx hb dX2_findSources_70 rfl (lv_at hl 0 rfl) ?_
                refine mk_s0 hx hb hown htg hK hP (by omega) fl_X2_103 dX2_findSources_71 ?_
                refine lv_iadd hx hb dX2_findSources_74 ?_
                refine mk_bp5 hx hb hown htg hK hI hS hP (by omega) fl_X2_93 dX2_findSources_75 (fun H locs hP hS => ?_)
                refine lv_iinc (v := nI (i + 1)) (lv' := [(1, .int (nI (i + 1))), (2, .ref (ad (5 + i))), (0, .ref (ad 0))]) hx hb dX2_findSources_78 hl (k := 1) rfl (nI_add i 1) (by decide) rfl (fun ls hl => ?_)
                refine lv_goto (tgt := 25) hx hb dX2_findSources_81 (by decide) ?_
                have hl := lv_sub (l' := [(1, .int (nI (i + 1))), (0, .ref (ad 0))]) hl [0, 2] rfl
                have hP := fP.eqc (congrArg (mkc ct ad) (show (upd (upd (fsS (fs0 M 4) i) (119 + i) (cSrc (fsS (fs0 M 4) i) i)) (129 + (cB (fsS (fs0 M 4) i) ((fsS (fs0 M 4) i) (39 + 8 * i + 4)))) (((upd (fsS (fs0 M 4) i) (119 + i) (cSrc (fsS (fs0 M 4) i) i)) (129 + (cB (fsS (fs0 M 4) i) ((fsS (fs0 M 4) i) (39 + 8 * i + 4))))) + ((upd (fsS (fs0 M 4) i) (119 + i) (cSrc (fsS (fs0 M 4) i) i)) (39 + 8 * i + 0)))) = (fsS (fs0 M 4) (i + 1)) from by first | (exfalso; omega) | (simp only [fsS, fsP, c4, Nat.not_lt.mpr c4, c30, Nat.not_le.mpr c30, c54, decide_true, decide_false, Bool.and_true, Bool.true_and, Bool.and_false, Bool.false_and, Bool.or_true, Bool.true_or, Bool.or_false, Bool.false_or, Bool.and_self, Bool.or_self, if_true, if_false, eq_self, Bool.false_eq_true, Bool.true_eq_false, reduceCtorEq, not_true_eq_false, not_false_eq_true, and_true, true_and, and_false, false_and, or_true, true_or, or_false, false_or, and_self, or_self, Int32.add_zero]; done) | (simp only [fsS, fsP, c4, Nat.not_lt.mpr c4, c30, Nat.not_le.mpr c30, c54, decide_true, decide_false, Bool.and_true, Bool.true_and, Bool.and_false, Bool.false_and, Bool.or_true, Bool.true_or, Bool.or_false, Bool.false_or, Bool.and_self, Bool.or_self, if_true, if_false, eq_self, Bool.false_eq_true, Bool.true_eq_false, reduceCtorEq, not_true_eq_false, not_false_eq_true, and_true, true_and, and_false, false_and, or_true, true_or, or_false, false_or, and_self, or_self, Int32.add_zero]; rfl))) hP
                exact ih25 (i + 1) (by omega) (by omega) _ _ hP hS _ hl
        have hl := lv_sub (l' := [(1, .int (nI 0)), (0, .ref (ad 0))]) hl [0, 1] rfl
        have hP := fP.eqc (congrArg (mkc ct ad) (show (fs0 M 4) = (fsS (fs0 M 4) 0) from by rfl)) hP
        exact lp25 (n - 0 + 1) 0 (by omega) (Nat.lt_succ_self _) _ _ hP hS _ hl
      · refine lv_aload_n hx hb dX2_findSources_7 rfl (lv_at hl 1 rfl) ?_
        refine mk_g2 hx hb hown htg hK hP fl_X2_19 dX2_findSources_8 ?_
        refine lv_iload_n hx hb dX2_findSources_11 rfl (lv_at hl 0 rfl) ?_
        refine mk_ab hx hb hK hP (by omega) dX2_findSources_12 ?_
        refine lv_iconst (v := nI 0) hx hb dX2_findSources_13 (by decide) ?_
        refine mk_bp5 hx hb hown htg hK hI hS hP (by omega) fl_X2_93 dX2_findSources_14 (fun H locs hP hS => ?_)
        refine lv_iinc (v := nI (i + 1)) (lv' := [(1, .int (nI (i + 1))), (0, .ref (ad 0))]) hx hb dX2_findSources_17 hl (k := 0) rfl (nI_add i 1) (by decide) rfl (fun ls hl => ?_)
        refine lv_goto (tgt := 2) hx hb dX2_findSources_20 (by decide) ?_
        have hl := lv_sub (l' := [(1, .int (nI (i + 1))), (0, .ref (ad 0))]) hl [0, 1] rfl
        have hP := fP.eqc (congrArg (mkc ct ad) (show (upd (fs0 M i) (129 + i) (nI 0)) = (fs0 M (i + 1)) from by rfl)) hP
        exact ih2 (i + 1) (by omega) (by omega) _ _ hP hS _ hl
  have hl := lv_sub (l' := [(1, .int (nI 0)), (0, .ref (ad 0))]) hl [0, 1] rfl
  have hP := fP.eqc (congrArg (mkc ct ad) (show M = (fs0 M 0) from by rfl)) hP
  exact lp2 (4 - 0 + 1) 0 (by omega) (Nat.lt_succ_self _) _ _ hP hS _ hl
set_option maxRecDepth 100000 in
set_option maxHeartbeats 4000000 in
theorem mX2_firstToShed (l : Launch) (D : va_G) (ct : Nat → ClassId) (ad : Nat → Nat) (M : Nat → Int32) (b : Int32) (n : Nat) (hw : mW M n) : FMet l yX2_firstToShed cX2_firstToShed 7 (some .int) 0 0 D ct 19 ad [.ref (ad 0), .int (b)] (mkc ct ad M) (some (.int ((cF M b n).1))) (mkc ct ad M) := by
  refine FMet.of (by decide +kernel) (Nat.le_of_ble_eq_true rfl) ?_
  intro p e s m args below meth c ls hx hb hr hml hown hlocks htg hK hI hP hS hl
  have hl : lv_has ls 7 [(0, .ref (ad 0)), (1, .int (b))] := hl
  have hn10 := hw.2
  refine lv_iconst (v := -1) hx hb dX2_firstToShed_0 (by decide) ?_
  refine lv_istore_n (lv' := [(2, .int (-1)), (0, .ref (ad 0)), (1, .int (b))]) hx hb dX2_firstToShed_1 rfl hl (by decide) rfl (fun ls hl => ?_)
  refine lv_iconst (v := nI 0) hx hb dX2_firstToShed_2 (by decide) ?_
  refine lv_istore_n (lv' := [(3, .int (nI 0)), (2, .int (-1)), (0, .ref (ad 0)), (1, .int (b))]) hx hb dX2_firstToShed_3 rfl hl (by decide) rfl (fun ls hl => ?_)
  refine lv_iconst (v := nI 0) hx hb dX2_firstToShed_4 (by decide) ?_
  refine lv_istore (lv' := [(4, .int (nI 0)), (3, .int (nI 0)), (2, .int (-1)), (0, .ref (ad 0)), (1, .int (b))]) hx hb dX2_firstToShed_5 hl (by decide) rfl (fun ls hl => ?_)
  refine lv_iconst (v := nI 0) hx hb dX2_firstToShed_7 (by decide) ?_
  refine lv_istore (lv' := [(5, .int (nI 0)), (4, .int (nI 0)), (3, .int (nI 0)), (2, .int (-1)), (0, .ref (ad 0)), (1, .int (b))]) hx hb dX2_firstToShed_8 hl (by decide) rfl (fun ls hl => ?_)
  have lp10 : ∀ (fu10 : Nat) (i : Nat), i ≤ n → n - i < fu10 → ∀ (H : Heap) (locs : List Loc), fP D 19 ad (mkc ct ad M) H → va_S (fA 19 ad) s.heap H locs → ∀ (ls : Array Slot), lv_has ls 7 [(5, .int (nI i)), (4, .int ((cF M b i).2.2)), (3, .int ((cF M b i).2.1)), (2, .int ((cF M b i).1)), (0, .ref (ad 0)), (1, .int (b))] → W p l e ({ frames := 0, cells := 0, slots := 0, locals := 0 }) s m args below meth c H locs 0 0 (MQ below (fQ D ct 19 ad (some (.int ((cF M b n).1))) (mkc ct ad M)) args s 0 0 (fA 19 ad)) (F0 m 10 ls []) := by
    intro fu10
    induction fu10 with
    | zero => intro i hi hfu10; exact absurd hfu10 (Nat.not_lt_zero _)
    | succ fu10 ih10 =>
      intro i hi hfu10 H locs hP hS ls hl
      refine lv_iload hx hb dX2_firstToShed_10 (lv_at hl 0 rfl) ?_
      refine lv_aload_n hx hb dX2_firstToShed_12 rfl (lv_at hl 4 rfl) ?_
      refine mk_g1 hx hb hown htg hK hP fl_X2_41 dX2_firstToShed_13 ?_
      refine lv_teq (hw).1 ?_
      refine lv_icmp_geN (tgt := 87) hx hb (by omega) (by omega) dX2_firstToShed_16 (by decide) (fun c16 => ?_) (fun c16 => ?_)
      · have e9 : n = i := by omega
        subst e9
        refine lv_iload_n hx hb dX2_firstToShed_87 rfl (lv_at hl 3 rfl) ?_
        refine fr_iret hx hb hr hlocks hK hI hS rfl dX2_firstToShed_88 ?_ ?_
        · exact rfl
        · exact hP
      · refine lv_aload_n hx hb dX2_firstToShed_19 rfl (lv_at hl 4 rfl) ?_
        refine mk_g0 hx hb hown htg hK hP fl_X2_11 dX2_firstToShed_20 ?_
        refine lv_iload hx hb dX2_firstToShed_23 (lv_at hl 0 rfl) ?_
        refine mk_as hx hb hK hP (by omega) dX2_firstToShed_25 ?_
        refine lv_astore (lv' := [(6, .ref (ad (5 + i))), (5, .int (nI i)), (4, .int ((cF M b i).2.2)), (3, .int ((cF M b i).2.1)), (2, .int ((cF M b i).1)), (0, .ref (ad 0)), (1, .int (b))]) hx hb dX2_firstToShed_26 hl (by decide) rfl (fun ls hl => ?_)
        refine lv_aload hx hb dX2_firstToShed_28 (lv_at hl 0 rfl) ?_
        refine mk_s8 hx hb hown htg hK hP (by omega) fl_X2_100 dX2_firstToShed_30 ?_
        refine lv_iload_n hx hb dX2_firstToShed_33 rfl (lv_at hl 6 rfl) ?_
        refine lv_icmp_ne (tgt := 81) hx hb dX2_firstToShed_34 (by decide) (fun c34 => ?_) (fun c34 => ?_)
        · refine lv_iinc (v := nI (i + 1)) (lv' := [(5, .int (nI (i + 1))), (6, .ref (ad (5 + i))), (4, .int ((cF M b i).2.2)), (3, .int ((cF M b i).2.1)), (2, .int ((cF M b i).1)), (0, .ref (ad 0)), (1, .int (b))]) hx hb dX2_firstToShed_81 hl (k := 1) rfl (nI_add i 1) (by decide) rfl (fun ls hl => ?_)
          refine lv_goto (tgt := 10) hx hb dX2_firstToShed_84 (by decide) ?_
          have hl := lv_sub (l' := [(5, .int (nI (i + 1))), (4, .int ((cF M b i).2.2)), (3, .int ((cF M b i).2.1)), (2, .int ((cF M b i).1)), (0, .ref (ad 0)), (1, .int (b))]) hl [0, 2, 3, 4, 5, 6] rfl
          have le4 : Value.int ((cF M b i).2.2) = Value.int ((cF M b (i + 1)).2.2) := by first | (exfalso; omega) | (simp only [cF, Int32.lt_irrefl, c16, Nat.not_le.mpr c16, c34, decide_true, decide_false, Bool.and_true, Bool.true_and, Bool.and_false, Bool.false_and, Bool.or_true, Bool.true_or, Bool.or_false, Bool.false_or, Bool.and_self, Bool.or_self, if_true, if_false, eq_self, Bool.false_eq_true, Bool.true_eq_false, reduceCtorEq, not_true_eq_false, not_false_eq_true, and_true, true_and, and_false, false_and, or_true, true_or, or_false, false_or, and_self, or_self, Int32.add_zero]; done) | (simp only [cF, Int32.lt_irrefl, c16, Nat.not_le.mpr c16, c34, decide_true, decide_false, Bool.and_true, Bool.true_and, Bool.and_false, Bool.false_and, Bool.or_true, Bool.true_or, Bool.or_false, Bool.false_or, Bool.and_self, Bool.or_self, if_true, if_false, eq_self, Bool.false_eq_true, Bool.true_eq_false, reduceCtorEq, not_true_eq_false, not_false_eq_true, and_true, true_and, and_false, false_and, or_true, true_or, or_false, false_or, and_self, or_self, Int32.add_zero]; rfl)
          have le3 : Value.int ((cF M b i).2.1) = Value.int ((cF M b (i + 1)).2.1) := by first | (exfalso; omega) | (simp only [cF, Int32.lt_irrefl, c16, Nat.not_le.mpr c16, c34, decide_true, decide_false, Bool.and_true, Bool.true_and, Bool.and_false, Bool.false_and, Bool.or_true, Bool.true_or, Bool.or_false, Bool.false_or, Bool.and_self, Bool.or_self, if_true, if_false, eq_self, Bool.false_eq_true, Bool.true_eq_false, reduceCtorEq, not_true_eq_false, not_false_eq_true, and_true, true_and, and_false, false_and, or_true, true_or, or_false, false_or, and_self, or_self, Int32.add_zero]; done) | (simp only [cF, Int32.lt_irrefl, c16, Nat.not_le.mpr c16, c34, decide_true, decide_false, Bool.and_true, Bool.true_and, Bool.and_false, Bool.false_and, Bool.or_true, Bool.true_or, Bool.or_false, Bool.false_or, Bool.and_self, Bool.or_self, if_true, if_false, eq_self, Bool.false_eq_true, Bool.true_eq_false, reduceCtorEq, not_true_eq_false, not_false_eq_true, and_true, true_and, and_false, false_and, or_true, true_or, or_false, false_or, and_self, or_self, Int32.add_zero]; rfl)
          have le2 : Value.int ((cF M b i).1) = Value.int ((cF M b (i + 1)).1) := by first | (exfalso; omega) | (simp only [cF, Int32.lt_irrefl, c16, Nat.not_le.mpr c16, c34, decide_true, decide_false, Bool.and_true, Bool.true_and, Bool.and_false, Bool.false_and, Bool.or_true, Bool.true_or, Bool.or_false, Bool.false_or, Bool.and_self, Bool.or_self, if_true, if_false, eq_self, Bool.false_eq_true, Bool.true_eq_false, reduceCtorEq, not_true_eq_false, not_false_eq_true, and_true, true_and, and_false, false_and, or_true, true_or, or_false, false_or, and_self, or_self, Int32.add_zero]; done) | (simp only [cF, Int32.lt_irrefl, c16, Nat.not_le.mpr c16, c34, decide_true, decide_false, Bool.and_true, Bool.true_and, Bool.and_false, Bool.false_and, Bool.or_true, Bool.true_or, Bool.or_false, Bool.false_or, Bool.and_self, Bool.or_self, if_true, if_false, eq_self, Bool.false_eq_true, Bool.true_eq_false, reduceCtorEq, not_true_eq_false, not_false_eq_true, and_true, true_and, and_false, false_and, or_true, true_or, or_false, false_or, and_self, or_self, Int32.add_zero]; rfl)
          have hl := lv_hasE hl (lcons rfl (lcons le4 (lcons le3 (lcons le2 (lcons rfl (lcons rfl rfl))))))
          exact ih10 (i + 1) (by omega) (by omega) _ _ hP hS _ hl
        · refine lv_aload hx hb dX2_firstToShed_37 (lv_at hl 0 rfl) ?_
          refine mk_s3 hx hb hown htg hK hP (by omega) fl_X2_118 dX2_firstToShed_39 ?_
          refine lv_iload_n hx hb dX2_firstToShed_42 rfl (lv_at hl 3 rfl) ?_
          refine lv_icmp_gtR (tgt := 65) hx hb dX2_firstToShed_43 (by decide) (fun c43 => ?_) (fun c43 => ?_)
          · refine lv_iload hx hb dX2_firstToShed_65 (lv_at hl 1 rfl) ?_
            refine lv_istore_n (lv' := [(2, .int (nI i)), (6, .ref (ad (5 + i))), (5, .int (nI i)), (4, .int ((cF M b i).2.2)), (3, .int ((cF M b i).2.1)), (0, .ref (ad 0)), (1, .int (b))]) hx hb dX2_firstToShed_67 rfl hl (by decide) rfl (fun ls hl => ?_)
            refine lv_aload hx hb dX2_firstToShed_68 (lv_at hl 1 rfl) ?_
            refine mk_s3 hx hb hown htg hK hP (by omega) fl_X2_118 dX2_firstToShed_70 ?_
            refine lv_istore_n (lv' := [(3, .int (M (39 + 8 * i + 3))), (2, .int (nI i)), (6, .ref (ad (5 + i))), (5, .int (nI i)), (4, .int ((cF M b i).2.2)), (0, .ref (ad 0)), (1, .int (b))]) hx hb dX2_firstToShed_73 rfl hl (by decide) rfl (fun ls hl => ?_)
            refine lv_aload hx hb dX2_firstToShed_74 (lv_at hl 2 rfl) ?_
            refine mk_s0 hx hb hown htg hK hP (by omega) fl_X2_103 dX2_firstToShed_76 ?_
            refine lv_istore (lv' := [(4, .int (M (39 + 8 * i + 0))), (3, .int (M (39 + 8 * i + 3))), (2, .int (nI i)), (6, .ref (ad (5 + i))), (5, .int (nI i)), (0, .ref (ad 0)), (1, .int (b))]) hx hb dX2_firstToShed_79 hl (by decide) rfl (fun ls hl => ?_)
            refine lv_iinc (v := nI (i + 1)) (lv' := [(5, .int (nI (i + 1))), (4, .int (M (39 + 8 * i + 0))), (3, .int (M (39 + 8 * i + 3))), (2, .int (nI i)), (6, .ref (ad (5 + i))), (0, .ref (ad 0)), (1, .int (b))]) hx hb dX2_firstToShed_81 hl (k := 4) rfl (nI_add i 1) (by decide) rfl (fun ls hl => ?_)
            refine lv_goto (tgt := 10) hx hb dX2_firstToShed_84 (by decide) ?_
            have hl := lv_sub (l' := [(5, .int (nI (i + 1))), (4, .int (M (39 + 8 * i + 0))), (3, .int (M (39 + 8 * i + 3))), (2, .int (nI i)), (0, .ref (ad 0)), (1, .int (b))]) hl [0, 1, 2, 3, 5, 6] rfl
            have le4 : Value.int (M (39 + 8 * i + 0)) = Value.int ((cF M b (i + 1)).2.2) := by first | (exfalso; omega) | (simp only [cF, Int32.lt_irrefl, c16, Nat.not_le.mpr c16, c34, c43, Int32.not_le.mpr c43, decide_true, decide_false, Bool.and_true, Bool.true_and, Bool.and_false, Bool.false_and, Bool.or_true, Bool.true_or, Bool.or_false, Bool.false_or, Bool.and_self, Bool.or_self, if_true, if_false, eq_self, Bool.false_eq_true, Bool.true_eq_false, reduceCtorEq, not_true_eq_false, not_false_eq_true, and_true, true_and, and_false, false_and, or_true, true_or, or_false, false_or, and_self, or_self, Int32.add_zero]; done) | (simp only [cF, Int32.lt_irrefl, c16, Nat.not_le.mpr c16, c34, c43, Int32.not_le.mpr c43, decide_true, decide_false, Bool.and_true, Bool.true_and, Bool.and_false, Bool.false_and, Bool.or_true, Bool.true_or, Bool.or_false, Bool.false_or, Bool.and_self, Bool.or_self, if_true, if_false, eq_self, Bool.false_eq_true, Bool.true_eq_false, reduceCtorEq, not_true_eq_false, not_false_eq_true, and_true, true_and, and_false, false_and, or_true, true_or, or_false, false_or, and_self, or_self, Int32.add_zero]; rfl)
            have le3 : Value.int (M (39 + 8 * i + 3)) = Value.int ((cF M b (i + 1)).2.1) := by first | (exfalso; omega) | (simp only [cF, Int32.lt_irrefl, c16, Nat.not_le.mpr c16, c34, c43, Int32.not_le.mpr c43, decide_true, decide_false, Bool.and_true, Bool.true_and, Bool.and_false, Bool.false_and, Bool.or_true, Bool.true_or, Bool.or_false, Bool.false_or, Bool.and_self, Bool.or_self, if_true, if_false, eq_self, Bool.false_eq_true, Bool.true_eq_false, reduceCtorEq, not_true_eq_false, not_false_eq_true, and_true, true_and, and_false, false_and, or_true, true_or, or_false, false_or, and_self, or_self, Int32.add_zero]; done) | (simp only [cF, Int32.lt_irrefl, c16, Nat.not_le.mpr c16, c34, c43, Int32.not_le.mpr c43, decide_true, decide_false, Bool.and_true, Bool.true_and, Bool.and_false, Bool.false_and, Bool.or_true, Bool.true_or, Bool.or_false, Bool.false_or, Bool.and_self, Bool.or_self, if_true, if_false, eq_self, Bool.false_eq_true, Bool.true_eq_false, reduceCtorEq, not_true_eq_false, not_false_eq_true, and_true, true_and, and_false, false_and, or_true, true_or, or_false, false_or, and_self, or_self, Int32.add_zero]; rfl)
            have le2 : Value.int (nI i) = Value.int ((cF M b (i + 1)).1) := by first | (exfalso; omega) | (simp only [cF, Int32.lt_irrefl, c16, Nat.not_le.mpr c16, c34, c43, Int32.not_le.mpr c43, decide_true, decide_false, Bool.and_true, Bool.true_and, Bool.and_false, Bool.false_and, Bool.or_true, Bool.true_or, Bool.or_false, Bool.false_or, Bool.and_self, Bool.or_self, if_true, if_false, eq_self, Bool.false_eq_true, Bool.true_eq_false, reduceCtorEq, not_true_eq_false, not_false_eq_true, and_true, true_and, and_false, false_and, or_true, true_or, or_false, false_or, and_self, or_self, Int32.add_zero]; done) | (simp only [cF, Int32.lt_irrefl, c16, Nat.not_le.mpr c16, c34, c43, Int32.not_le.mpr c43, decide_true, decide_false, Bool.and_true, Bool.true_and, Bool.and_false, Bool.false_and, Bool.or_true, Bool.true_or, Bool.or_false, Bool.false_or, Bool.and_self, Bool.or_self, if_true, if_false, eq_self, Bool.false_eq_true, Bool.true_eq_false, reduceCtorEq, not_true_eq_false, not_false_eq_true, and_true, true_and, and_false, false_and, or_true, true_or, or_false, false_or, and_self, or_self, Int32.add_zero]; rfl)
            have hl := lv_hasE hl (lcons rfl (lcons le4 (lcons le3 (lcons le2 (lcons rfl (lcons rfl rfl))))))
            exact ih10 (i + 1) (by omega) (by omega) _ _ hP hS _ hl
          · refine lv_aload hx hb dX2_firstToShed_46 (lv_at hl 0 rfl) ?_
            refine mk_s3 hx hb hown htg hK hP (by omega) fl_X2_118 dX2_firstToShed_48 ?_
            refine lv_iload_n hx hb dX2_firstToShed_51 rfl (lv_at hl 3 rfl) ?_
            refine lv_icmp_ne (tgt := 81) hx hb dX2_firstToShed_52 (by decide) (fun c52 => ?_) (fun c52 => ?_)
            · refine lv_iinc (v := nI (i + 1)) (lv' := [(5, .int (nI (i + 1))), (6, .ref (ad (5 + i))), (4, .int ((cF M b i).2.2)), (3, .int ((cF M b i).2.1)), (2, .int ((cF M b i).1)), (0, .ref (ad 0)), (1, .int (b))]) hx hb dX2_firstToShed_81 hl (k := 1) rfl (nI_add i 1) (by decide) rfl (fun ls hl => ?_)
              refine lv_goto (tgt := 10) hx hb dX2_firstToShed_84 (by decide) ?_
              have hl := lv_sub (l' := [(5, .int (nI (i + 1))), (4, .int ((cF M b i).2.2)), (3, .int ((cF M b i).2.1)), (2, .int ((cF M b i).1)), (0, .ref (ad 0)), (1, .int (b))]) hl [0, 2, 3, 4, 5, 6] rfl
              have le4 : Value.int ((cF M b i).2.2) = Value.int ((cF M b (i + 1)).2.2) := by first | (exfalso; omega) | (simp only [cF, Int32.lt_irrefl, c16, Nat.not_le.mpr c16, c34, c43, Int32.not_lt.mpr c43, c52, decide_true, decide_false, Bool.and_true, Bool.true_and, Bool.and_false, Bool.false_and, Bool.or_true, Bool.true_or, Bool.or_false, Bool.false_or, Bool.and_self, Bool.or_self, if_true, if_false, eq_self, Bool.false_eq_true, Bool.true_eq_false, reduceCtorEq, not_true_eq_false, not_false_eq_true, and_true, true_and, and_false, false_and, or_true, true_or, or_false, false_or, and_self, or_self, Int32.add_zero]; done) | (simp only [cF, Int32.lt_irrefl, c16, Nat.not_le.mpr c16, c34, c43, Int32.not_lt.mpr c43, c52, decide_true, decide_false, Bool.and_true, Bool.true_and, Bool.and_false, Bool.false_and, Bool.or_true, Bool.true_or, Bool.or_false, Bool.false_or, Bool.and_self, Bool.or_self, if_true, if_false, eq_self, Bool.false_eq_true, Bool.true_eq_false, reduceCtorEq, not_true_eq_false, not_false_eq_true, and_true, true_and, and_false, false_and, or_true, true_or, or_false, false_or, and_self, or_self, Int32.add_zero]; rfl)
              have le3 : Value.int ((cF M b i).2.1) = Value.int ((cF M b (i + 1)).2.1) := by first | (exfalso; omega) | (simp only [cF, Int32.lt_irrefl, c16, Nat.not_le.mpr c16, c34, c43, Int32.not_lt.mpr c43, c52, decide_true, decide_false, Bool.and_true, Bool.true_and, Bool.and_false, Bool.false_and, Bool.or_true, Bool.true_or, Bool.or_false, Bool.false_or, Bool.and_self, Bool.or_self, if_true, if_false, eq_self, Bool.false_eq_true, Bool.true_eq_false, reduceCtorEq, not_true_eq_false, not_false_eq_true, and_true, true_and, and_false, false_and, or_true, true_or, or_false, false_or, and_self, or_self, Int32.add_zero]; done) | (simp only [cF, Int32.lt_irrefl, c16, Nat.not_le.mpr c16, c34, c43, Int32.not_lt.mpr c43, c52, decide_true, decide_false, Bool.and_true, Bool.true_and, Bool.and_false, Bool.false_and, Bool.or_true, Bool.true_or, Bool.or_false, Bool.false_or, Bool.and_self, Bool.or_self, if_true, if_false, eq_self, Bool.false_eq_true, Bool.true_eq_false, reduceCtorEq, not_true_eq_false, not_false_eq_true, and_true, true_and, and_false, false_and, or_true, true_or, or_false, false_or, and_self, or_self, Int32.add_zero]; rfl)
              have le2 : Value.int ((cF M b i).1) = Value.int ((cF M b (i + 1)).1) := by first | (exfalso; omega) | (simp only [cF, Int32.lt_irrefl, c16, Nat.not_le.mpr c16, c34, c43, Int32.not_lt.mpr c43, c52, decide_true, decide_false, Bool.and_true, Bool.true_and, Bool.and_false, Bool.false_and, Bool.or_true, Bool.true_or, Bool.or_false, Bool.false_or, Bool.and_self, Bool.or_self, if_true, if_false, eq_self, Bool.false_eq_true, Bool.true_eq_false, reduceCtorEq, not_true_eq_false, not_false_eq_true, and_true, true_and, and_false, false_and, or_true, true_or, or_false, false_or, and_self, or_self, Int32.add_zero]; done) | (simp only [cF, Int32.lt_irrefl, c16, Nat.not_le.mpr c16, c34, c43, Int32.not_lt.mpr c43, c52, decide_true, decide_false, Bool.and_true, Bool.true_and, Bool.and_false, Bool.false_and, Bool.or_true, Bool.true_or, Bool.or_false, Bool.false_or, Bool.and_self, Bool.or_self, if_true, if_false, eq_self, Bool.false_eq_true, Bool.true_eq_false, reduceCtorEq, not_true_eq_false, not_false_eq_true, and_true, true_and, and_false, false_and, or_true, true_or, or_false, false_or, and_self, or_self, Int32.add_zero]; rfl)
              have hl := lv_hasE hl (lcons rfl (lcons le4 (lcons le3 (lcons le2 (lcons rfl (lcons rfl rfl))))))
              exact ih10 (i + 1) (by omega) (by omega) _ _ hP hS _ hl
            · refine lv_aload hx hb dX2_firstToShed_55 (lv_at hl 0 rfl) ?_
              refine mk_s0 hx hb hown htg hK hP (by omega) fl_X2_103 dX2_firstToShed_57 ?_
              refine lv_iload hx hb dX2_firstToShed_60 (lv_at hl 2 rfl) ?_
              refine lv_icmp_leR (tgt := 81) hx hb dX2_firstToShed_62 (by decide) (fun c62 => ?_) (fun c62 => ?_)
              · refine lv_iinc (v := nI (i + 1)) (lv' := [(5, .int (nI (i + 1))), (6, .ref (ad (5 + i))), (4, .int ((cF M b i).2.2)), (3, .int ((cF M b i).2.1)), (2, .int ((cF M b i).1)), (0, .ref (ad 0)), (1, .int (b))]) hx hb dX2_firstToShed_81 hl (k := 1) rfl (nI_add i 1) (by decide) rfl (fun ls hl => ?_)
                refine lv_goto (tgt := 10) hx hb dX2_firstToShed_84 (by decide) ?_
                have hl := lv_sub (l' := [(5, .int (nI (i + 1))), (4, .int ((cF M b i).2.2)), (3, .int ((cF M b i).2.1)), (2, .int ((cF M b i).1)), (0, .ref (ad 0)), (1, .int (b))]) hl [0, 2, 3, 4, 5, 6] rfl
                have le4 : Value.int ((cF M b i).2.2) = Value.int ((cF M b (i + 1)).2.2) := by first | (exfalso; omega) | (simp only [cF, Int32.lt_irrefl, c16, Nat.not_le.mpr c16, c34, c43, Int32.not_lt.mpr c43, c52, c62, Int32.not_lt.mpr c62, decide_true, decide_false, Bool.and_true, Bool.true_and, Bool.and_false, Bool.false_and, Bool.or_true, Bool.true_or, Bool.or_false, Bool.false_or, Bool.and_self, Bool.or_self, if_true, if_false, eq_self, Bool.false_eq_true, Bool.true_eq_false, reduceCtorEq, not_true_eq_false, not_false_eq_true, and_true, true_and, and_false, false_and, or_true, true_or, or_false, false_or, and_self, or_self, Int32.add_zero]; done) | (simp only [cF, Int32.lt_irrefl, c16, Nat.not_le.mpr c16, c34, c43, Int32.not_lt.mpr c43, c52, c62, Int32.not_lt.mpr c62, decide_true, decide_false, Bool.and_true, Bool.true_and, Bool.and_false, Bool.false_and, Bool.or_true, Bool.true_or, Bool.or_false, Bool.false_or, Bool.and_self, Bool.or_self, if_true, if_false, eq_self, Bool.false_eq_true, Bool.true_eq_false, reduceCtorEq, not_true_eq_false, not_false_eq_true, and_true, true_and, and_false, false_and, or_true, true_or, or_false, false_or, and_self, or_self, Int32.add_zero]; rfl)
                have le3 : Value.int ((cF M b i).2.1) = Value.int ((cF M b (i + 1)).2.1) := by first | (exfalso; omega) | (simp only [cF, Int32.lt_irrefl, c16, Nat.not_le.mpr c16, c34, c43, Int32.not_lt.mpr c43, c52, c62, Int32.not_lt.mpr c62, decide_true, decide_false, Bool.and_true, Bool.true_and, Bool.and_false, Bool.false_and, Bool.or_true, Bool.true_or, Bool.or_false, Bool.false_or, Bool.and_self, Bool.or_self, if_true, if_false, eq_self, Bool.false_eq_true, Bool.true_eq_false, reduceCtorEq, not_true_eq_false, not_false_eq_true, and_true, true_and, and_false, false_and, or_true, true_or, or_false, false_or, and_self, or_self, Int32.add_zero]; done) | (simp only [cF, Int32.lt_irrefl, c16, Nat.not_le.mpr c16, c34, c43, Int32.not_lt.mpr c43, c52, c62, Int32.not_lt.mpr c62, decide_true, decide_false, Bool.and_true, Bool.true_and, Bool.and_false, Bool.false_and, Bool.or_true, Bool.true_or, Bool.or_false, Bool.false_or, Bool.and_self, Bool.or_self, if_true, if_false, eq_self, Bool.false_eq_true, Bool.true_eq_false, reduceCtorEq, not_true_eq_false, not_false_eq_true, and_true, true_and, and_false, false_and, or_true, true_or, or_false, false_or, and_self, or_self, Int32.add_zero]; rfl)
                have le2 : Value.int ((cF M b i).1) = Value.int ((cF M b (i + 1)).1) := by first | (exfalso; omega) | (simp only [cF, Int32.lt_irrefl, c16, Nat.not_le.mpr c16, c34, c43, Int32.not_lt.mpr c43, c52, c62, Int32.not_lt.mpr c62, decide_true, decide_false, Bool.and_true, Bool.true_and, Bool.and_false, Bool.false_and, Bool.or_true, Bool.true_or, Bool.or_false, Bool.false_or, Bool.and_self, Bool.or_self, if_true, if_false, eq_self, Bool.false_eq_true, Bool.true_eq_false, reduceCtorEq, not_true_eq_false, not_false_eq_true, and_true, true_and, and_false, false_and, or_true, true_or, or_false, false_or, and_self, or_self, Int32.add_zero]; done) | (simp only [cF, Int32.lt_irrefl, c16, Nat.not_le.mpr c16, c34, c43, Int32.not_lt.mpr c43, c52, c62, Int32.not_lt.mpr c62, decide_true, decide_false, Bool.and_true, Bool.true_and, Bool.and_false, Bool.false_and, Bool.or_true, Bool.true_or, Bool.or_false, Bool.false_or, Bool.and_self, Bool.or_self, if_true, if_false, eq_self, Bool.false_eq_true, Bool.true_eq_false, reduceCtorEq, not_true_eq_false, not_false_eq_true, and_true, true_and, and_false, false_and, or_true, true_or, or_false, false_or, and_self, or_self, Int32.add_zero]; rfl)
                have hl := lv_hasE hl (lcons rfl (lcons le4 (lcons le3 (lcons le2 (lcons rfl (lcons rfl rfl))))))
                exact ih10 (i + 1) (by omega) (by omega) _ _ hP hS _ hl
              · refine lv_iload hx hb dX2_firstToShed_65 (lv_at hl 1 rfl) ?_
                refine lv_istore_n (lv' := [(2, .int (nI i)), (6, .ref (ad (5 + i))), (5, .int (nI i)), (4, .int ((cF M b i).2.2)), (3, .int ((cF M b i).2.1)), (0, .ref (ad 0)), (1, .int (b))]) hx hb dX2_firstToShed_67 rfl hl (by decide) rfl (fun ls hl => ?_)
                refine lv_aload hx hb dX2_firstToShed_68 (lv_at hl 1 rfl) ?_
                refine mk_s3 hx hb hown htg hK hP (by omega) fl_X2_118 dX2_firstToShed_70 ?_
                refine lv_istore_n (lv' := [(3, .int (M (39 + 8 * i + 3))), (2, .int (nI i)), (6, .ref (ad (5 + i))), (5, .int (nI i)), (4, .int ((cF M b i).2.2)), (0, .ref (ad 0)), (1, .int (b))]) hx hb dX2_firstToShed_73 rfl hl (by decide) rfl (fun ls hl => ?_)
                refine lv_aload hx hb dX2_firstToShed_74 (lv_at hl 2 rfl) ?_
                refine mk_s0 hx hb hown htg hK hP (by omega) fl_X2_103 dX2_firstToShed_76 ?_
                refine lv_istore (lv' := [(4, .int (M (39 + 8 * i + 0))), (3, .int (M (39 + 8 * i + 3))), (2, .int (nI i)), (6, .ref (ad (5 + i))), (5, .int (nI i)), (0, .ref (ad 0)), (1, .int (b))]) hx hb dX2_firstToShed_79 hl (by decide) rfl (fun ls hl => ?_)
                refine lv_iinc (v := nI (i + 1)) (lv' := [(5, .int (nI (i + 1))), (4, .int (M (39 + 8 * i + 0))), (3, .int (M (39 + 8 * i + 3))), (2, .int (nI i)), (6, .ref (ad (5 + i))), (0, .ref (ad 0)), (1, .int (b))]) hx hb dX2_firstToShed_81 hl (k := 4) rfl (nI_add i 1) (by decide) rfl (fun ls hl => ?_)
                refine lv_goto (tgt := 10) hx hb dX2_firstToShed_84 (by decide) ?_
                have hl := lv_sub (l' := [(5, .int (nI (i + 1))), (4, .int (M (39 + 8 * i + 0))), (3, .int (M (39 + 8 * i + 3))), (2, .int (nI i)), (0, .ref (ad 0)), (1, .int (b))]) hl [0, 1, 2, 3, 5, 6] rfl
                have le4 : Value.int (M (39 + 8 * i + 0)) = Value.int ((cF M b (i + 1)).2.2) := by first | (exfalso; omega) | (simp only [cF, Int32.lt_irrefl, c16, Nat.not_le.mpr c16, c34, c43, Int32.not_lt.mpr c43, c52, c62, Int32.not_le.mpr c62, decide_true, decide_false, Bool.and_true, Bool.true_and, Bool.and_false, Bool.false_and, Bool.or_true, Bool.true_or, Bool.or_false, Bool.false_or, Bool.and_self, Bool.or_self, if_true, if_false, eq_self, Bool.false_eq_true, Bool.true_eq_false, reduceCtorEq, not_true_eq_false, not_false_eq_true, and_true, true_and, and_false, false_and, or_true, true_or, or_false, false_or, and_self, or_self, Int32.add_zero]; done) | (simp only [cF, Int32.lt_irrefl, c16, Nat.not_le.mpr c16, c34, c43, Int32.not_lt.mpr c43, c52, c62, Int32.not_le.mpr c62, decide_true, decide_false, Bool.and_true, Bool.true_and, Bool.and_false, Bool.false_and, Bool.or_true, Bool.true_or, Bool.or_false, Bool.false_or, Bool.and_self, Bool.or_self, if_true, if_false, eq_self, Bool.false_eq_true, Bool.true_eq_false, reduceCtorEq, not_true_eq_false, not_false_eq_true, and_true, true_and, and_false, false_and, or_true, true_or, or_false, false_or, and_self, or_self, Int32.add_zero]; rfl)
                have le3 : Value.int (M (39 + 8 * i + 3)) = Value.int ((cF M b (i + 1)).2.1) := by first | (exfalso; omega) | (simp only [cF, Int32.lt_irrefl, c16, Nat.not_le.mpr c16, c34, c43, Int32.not_lt.mpr c43, c52, c62, Int32.not_le.mpr c62, decide_true, decide_false, Bool.and_true, Bool.true_and, Bool.and_false, Bool.false_and, Bool.or_true, Bool.true_or, Bool.or_false, Bool.false_or, Bool.and_self, Bool.or_self, if_true, if_false, eq_self, Bool.false_eq_true, Bool.true_eq_false, reduceCtorEq, not_true_eq_false, not_false_eq_true, and_true, true_and, and_false, false_and, or_true, true_or, or_false, false_or, and_self, or_self, Int32.add_zero]; done) | (simp only [cF, Int32.lt_irrefl, c16, Nat.not_le.mpr c16, c34, c43, Int32.not_lt.mpr c43, c52, c62, Int32.not_le.mpr c62, decide_true, decide_false, Bool.and_true, Bool.true_and, Bool.and_false, Bool.false_and, Bool.or_true, Bool.true_or, Bool.or_false, Bool.false_or, Bool.and_self, Bool.or_self, if_true, if_false, eq_self, Bool.false_eq_true, Bool.true_eq_false, reduceCtorEq, not_true_eq_false, not_false_eq_true, and_true, true_and, and_false, false_and, or_true, true_or, or_false, false_or, and_self, or_self, Int32.add_zero]; rfl)
                have le2 : Value.int (nI i) = Value.int ((cF M b (i + 1)).1) := by first | (exfalso; omega) | (simp only [cF, Int32.lt_irrefl, c16, Nat.not_le.mpr c16, c34, c43, Int32.not_lt.mpr c43, c52, c62, Int32.not_le.mpr c62, decide_true, decide_false, Bool.and_true, Bool.true_and, Bool.and_false, Bool.false_and, Bool.or_true, Bool.true_or, Bool.or_false, Bool.false_or, Bool.and_self, Bool.or_self, if_true, if_false, eq_self, Bool.false_eq_true, Bool.true_eq_false, reduceCtorEq, not_true_eq_false, not_false_eq_true, and_true, true_and, and_false, false_and, or_true, true_or, or_false, false_or, and_self, or_self, Int32.add_zero]; done) | (simp only [cF, Int32.lt_irrefl, c16, Nat.not_le.mpr c16, c34, c43, Int32.not_lt.mpr c43, c52, c62, Int32.not_le.mpr c62, decide_true, decide_false, Bool.and_true, Bool.true_and, Bool.and_false, Bool.false_and, Bool.or_true, Bool.true_or, Bool.or_false, Bool.false_or, Bool.and_self, Bool.or_self, if_true, if_false, eq_self, Bool.false_eq_true, Bool.true_eq_false, reduceCtorEq, not_true_eq_false, not_false_eq_true, and_true, true_and, and_false, false_and, or_true, true_or, or_false, false_or, and_self, or_self, Int32.add_zero]; rfl)
                have hl := lv_hasE hl (lcons rfl (lcons le4 (lcons le3 (lcons le2 (lcons rfl (lcons rfl rfl))))))
                exact ih10 (i + 1) (by omega) (by omega) _ _ hP hS _ hl
  have hl := lv_sub (l' := [(5, .int (nI 0)), (4, .int (nI 0)), (3, .int (nI 0)), (2, .int (-1)), (0, .ref (ad 0)), (1, .int (b))]) hl [0, 1, 2, 3, 4, 5] rfl
  have le4 : Value.int (nI 0) = Value.int ((cF M b 0).2.2) := by rfl
  have le3 : Value.int (nI 0) = Value.int ((cF M b 0).2.1) := by rfl
  have le2 : Value.int (-1) = Value.int ((cF M b 0).1) := by rfl
  have hl := lv_hasE hl (lcons rfl (lcons le4 (lcons le3 (lcons le2 (lcons rfl (lcons rfl rfl))))))
  exact lp10 (n - 0 + 1) 0 (by omega) (Nat.lt_succ_self _) _ _ hP hS _ hl
set_option maxRecDepth 100000 in
set_option maxHeartbeats 4000000 in
theorem mX2_shedTooMuch (l : Launch) (D : va_G) (ct : Nat → ClassId) (ad : Nat → Nat) (M : Nat → Int32) (b : Nat) (n : Nat) (hw : mW M n) (hb4 : b < 4) : FMet l yX2_shedTooMuch cX2_shedTooMuch 5 (none : Option Jvm.ClassFile.FieldType) 1 26 D ct 19 ad [.ref (ad 0), .int (nI b)] (mkc ct ad M) none (mkc ct ad (cShL n b n M)) := by
  refine FMet.of (by decide +kernel) (Nat.le_of_ble_eq_true rfl) ?_
  intro p e s m args below meth c ls hx hb hr hml hown hlocks htg hK hI hP hS hl
  have hl : lv_has ls 5 [(0, .ref (ad 0)), (1, .int (nI b))] := hl
  have hn10 := hw.2
  refine lv_iconst (v := nI 0) hx hb dX2_shedTooMuch_0 (by decide) ?_
  refine lv_istore_n (lv' := [(2, .int (nI 0)), (0, .ref (ad 0)), (1, .int (nI b))]) hx hb dX2_shedTooMuch_1 rfl hl (by decide) rfl (fun ls hl => ?_)
  have lp2 : ∀ (fu2 : Nat) (f : Nat) (i : Nat) (X : Nat → Int32), mW X n → f + i = n → cShL n b f X = cShL n b n M → f < fu2 → ∀ (H : Heap) (locs : List Loc), fP D 19 ad (mkc ct ad X) H → va_S (fA 19 ad) s.heap H locs → ∀ (ls : Array Slot), lv_has ls 5 [(2, .int (nI i)), (0, .ref (ad 0)), (1, .int (nI b))] → W p l e ({ frames := 1, cells := 0, slots := 0, locals := 26 }) s m args below meth c H locs 0 0 (MQ below (fQ D ct 19 ad none (mkc ct ad (cShL n b n M))) args s 0 0 (fA 19 ad)) (F0 m 2 ls []) := by
    intro fu2
    induction fu2 with
    | zero => intro f i X hX hfi hres hfu2; exact absurd hfu2 (Nat.not_lt_zero _)
    | succ fu2 ih2 =>
      intro f i X hX hfi hres hfu2 H locs hP hS ls hl
      refine lv_iload_n hx hb dX2_shedTooMuch_2 rfl (lv_at hl 0 rfl) ?_
      refine lv_aload_n hx hb dX2_shedTooMuch_3 rfl (lv_at hl 1 rfl) ?_
      refine mk_g1 hx hb hown htg hK hP fl_X2_41 dX2_shedTooMuch_4 ?_
      refine lv_teq (hX).1 ?_
      refine lv_icmp_geN (tgt := 89) hx hb (by omega) (by omega) dX2_shedTooMuch_7 (by decide) (fun c7 => ?_) (fun c7 => ?_)
      · refine fr_vret hx hb hr hlocks hK hI hS dX2_shedTooMuch_89 ?_
        refine fP.eqc (congrArg (mkc ct ad) (show (cShL n b n M) = X from by first | (rw [← hres, cShL_no (fun q => q.2 c30)]; done) | (rw [← hres, cShL_no (fun q => by rw [c19] at q; exact Bool.false_ne_true q.1)]; done) | (rw [← hres, show f = 0 from by omega]; rfl)).symm) ?_
        exact hP
      · refine lv_aload_n hx hb dX2_shedTooMuch_10 rfl (lv_at hl 1 rfl) ?_
        refine mk_g2 hx hb hown htg hK hP fl_X2_19 dX2_shedTooMuch_11 ?_
        refine lv_iload_n hx hb dX2_shedTooMuch_14 rfl (lv_at hl 2 rfl) ?_
        refine mk_ab hx hb hK hP (by omega) dX2_shedTooMuch_15 ?_
        refine mk_cbr (As := []) (rest := []) (by omega) hx hb hown htg hK hI hS hP hml hl.1 (mX0_carriesTooMuch l D ct ad _ b (by omega)) cw_X2_106 rfl rfl ⟨Nat.le_of_ble_eq_true rfl, Nat.le_of_ble_eq_true rfl⟩ (Nat.le_of_ble_eq_true rfl) dX2_shedTooMuch_16 ⟨Nat.le_refl _, Nat.le_refl _⟩ (fun H locs hP hS => ?_)
        refine lv_ifeqB (tgt := 89) hx hb dX2_shedTooMuch_19 (by decide) (fun c19 => ?_) (fun c19 => ?_)
        · refine fr_vret hx hb hr hlocks hK hI hS dX2_shedTooMuch_89 ?_
          refine fP.eqc (congrArg (mkc ct ad) (show (cShL n b n M) = X from by first | (rw [← hres, cShL_no (fun q => q.2 c30)]; done) | (rw [← hres, cShL_no (fun q => by rw [c19] at q; exact Bool.false_ne_true q.1)]; done) | (rw [← hres, show f = 0 from by omega]; rfl)).symm) ?_
          exact hP
        · refine lv_aload_n hx hb dX2_shedTooMuch_22 rfl (lv_at hl 1 rfl) ?_
          refine lv_iload_n hx hb dX2_shedTooMuch_23 rfl (lv_at hl 2 rfl) ?_
          refine mk_cmr (As := [.int (nI b)]) (rest := []) hx hb hown htg hK hI hS hP hml hl.1 (mX2_firstToShed l D ct ad _ (nI b) n hX) cw_X2_110 rfl rfl ⟨Nat.le_of_ble_eq_true rfl, Nat.le_of_ble_eq_true rfl⟩ (Nat.le_of_ble_eq_true rfl) dX2_shedTooMuch_24 ⟨Nat.le_refl _, Nat.le_refl _⟩ (fun H locs hP hS => ?_)
          refine lv_istore_n (lv' := [(3, .int ((cF X (nI b) n).1)), (2, .int (nI i)), (0, .ref (ad 0)), (1, .int (nI b))]) hx hb dX2_shedTooMuch_27 rfl hl (by decide) rfl (fun ls hl => ?_)
          refine lv_iload_n hx hb dX2_shedTooMuch_28 rfl (lv_at hl 0 rfl) ?_
          refine lv_iconst (v := -1) hx hb dX2_shedTooMuch_29 (by decide) ?_
          refine lv_icmp_ne (tgt := 34) hx hb dX2_shedTooMuch_30 (by decide) (fun c30 => ?_) (fun c30 => ?_)
          · have hf9 := cF_n n hn10 c30
            have hf29 := hf9.2
            refine lv_aload_n hx hb dX2_shedTooMuch_34 rfl (lv_at hl 2 rfl) ?_
            refine mk_g0 hx hb hown htg hK hP fl_X2_11 dX2_shedTooMuch_35 ?_
            refine lv_iload_n hx hb dX2_shedTooMuch_38 rfl (lv_at hl 0 rfl) ?_
            refine lv_teq hf9.1 ?_
            refine mk_as hx hb hK hP (by omega) dX2_shedTooMuch_39 ?_
            refine lv_astore (lv' := [(4, .ref (ad (5 + (iN (cF X (nI b) n).1)))), (3, .int ((cF X (nI b) n).1)), (2, .int (nI i)), (0, .ref (ad 0)), (1, .int (nI b))]) hx hb dX2_shedTooMuch_40 hl (by decide) rfl (fun ls hl => ?_)
            refine lv_aload hx hb dX2_shedTooMuch_42 (lv_at hl 0 rfl) ?_
            refine lv_iconst (v := nI 1) hx hb dX2_shedTooMuch_44 (by decide) ?_
            refine mk_sp5 hx hb hown htg hK hI hS hP (by omega) (Or.inr rfl) fl_X2_114 dX2_shedTooMuch_45 (fun H locs hP hS => ?_)
            refine lv_aload hx hb dX2_shedTooMuch_48 (lv_at hl 0 rfl) ?_
            refine lv_iconst (v := -1) hx hb dX2_shedTooMuch_50 (by decide) ?_
            refine mk_sp8 hx hb hown htg hK hI hS hP (by omega) fl_X2_100 dX2_shedTooMuch_51 (fun H locs hP hS => ?_)
            refine lv_aload_n hx hb dX2_shedTooMuch_54 rfl (lv_at hl 3 rfl) ?_
            refine mk_g2 hx hb hown htg hK hP fl_X2_19 dX2_shedTooMuch_55 ?_
            refine lv_iload_n hx hb dX2_shedTooMuch_58 rfl (lv_at hl 4 rfl) ?_
            refine mk_ab hx hb hK hP (by omega) dX2_shedTooMuch_59 ?_
            refine lv_dup hx hb dX2_shedTooMuch_60 rfl ?_
            refine mk_b5 hx hb hown htg hK hP (by omega) fl_X2_93 dX2_shedTooMuch_61 ?_
            refine lv_aload hx hb dX2_shedTooMuch_64 (lv_at hl 0 rfl) ?_
            refine mk_s0 hx hb hown htg hK hP (by omega) fl_X2_103 dX2_shedTooMuch_66 ?_
            refine lv_isub hx hb dX2_shedTooMuch_69 ?_
            refine mk_bp5 hx hb hown htg hK hI hS hP (by omega) fl_X2_93 dX2_shedTooMuch_70 (fun H locs hP hS => ?_)
            refine lv_aload_n hx hb dX2_shedTooMuch_73 rfl (lv_at hl 3 rfl) ?_
            refine lv_dup hx hb dX2_shedTooMuch_74 rfl ?_
            refine mk_g7 hx hb hown htg hK hP fl_X2_64 dX2_shedTooMuch_75 ?_
            refine lv_iconst (v := nI 1) hx hb dX2_shedTooMuch_78 (by decide) ?_
            refine lv_iadd hx hb dX2_shedTooMuch_79 ?_
            refine mk_p7 hx hb hown htg hK hI hS hP fl_X2_64 dX2_shedTooMuch_80 (fun H locs hP hS => ?_)
            refine lv_iinc (v := nI (i + 1)) (lv' := [(2, .int (nI (i + 1))), (4, .ref (ad (5 + (iN (cF X (nI b) n).1)))), (3, .int ((cF X (nI b) n).1)), (0, .ref (ad 0)), (1, .int (nI b))]) hx hb dX2_shedTooMuch_83 hl (k := 2) rfl (nI_add i 1) (by decide) rfl (fun ls hl => ?_)
            refine lv_goto (tgt := 2) hx hb dX2_shedTooMuch_86 (by decide) ?_
            have hl := lv_sub (l' := [(2, .int (nI (i + 1))), (0, .ref (ad 0)), (1, .int (nI b))]) hl [0, 3, 4] rfl
            have hP := fP.eqc (congrArg (mkc ct ad) (show (upd (upd (upd (upd X (39 + 8 * (iN (cF X (nI b) n).1) + 5) (nI 1)) (119 + (iN (cF X (nI b) n).1)) (-1)) (129 + b) (((upd (upd X (39 + 8 * (iN (cF X (nI b) n).1) + 5) (nI 1)) (119 + (iN (cF X (nI b) n).1)) (-1)) (129 + b)) - ((upd (upd X (39 + 8 * (iN (cF X (nI b) n).1) + 5) (nI 1)) (119 + (iN (cF X (nI b) n).1)) (-1)) (39 + 8 * (iN (cF X (nI b) n).1) + 0)))) (5) (((upd (upd (upd X (39 + 8 * (iN (cF X (nI b) n).1) + 5) (nI 1)) (119 + (iN (cF X (nI b) n).1)) (-1)) (129 + b) (((upd (upd X (39 + 8 * (iN (cF X (nI b) n).1) + 5) (nI 1)) (119 + (iN (cF X (nI b) n).1)) (-1)) (129 + b)) - ((upd (upd X (39 + 8 * (iN (cF X (nI b) n).1) + 5) (nI 1)) (119 + (iN (cF X (nI b) n).1)) (-1)) (39 + 8 * (iN (cF X (nI b) n).1) + 0)))) 5) + (nI 1))) = (cSh3 X b (iN (cF X (nI b) n).1)) from by rfl)) hP
            exact ih2 (f - 1) (i + 1) (cSh3 X b (iN (cF X (nI b) n).1)) (cSh3_mW hX) (by omega) ((cShL_go (by omega) ⟨c19, c30⟩).symm.trans hres) (by omega) _ _ hP hS _ hl
          · refine fr_vret hx hb hr hlocks hK hI hS dX2_shedTooMuch_33 ?_
            refine fP.eqc (congrArg (mkc ct ad) (show (cShL n b n M) = X from by first | (rw [← hres, cShL_no (fun q => q.2 c30)]; done) | (rw [← hres, cShL_no (fun q => by rw [c19] at q; exact Bool.false_ne_true q.1)]; done) | (rw [← hres, show f = 0 from by omega]; rfl)).symm) ?_
            exact hP
  have hl := lv_sub (l' := [(2, .int (nI 0)), (0, .ref (ad 0)), (1, .int (nI b))]) hl [0, 1, 2] rfl
  exact lp2 (n + 1) n 0 M (hw) (rfl) (rfl) (Nat.lt_succ_self _) _ _ hP hS _ hl
set_option maxRecDepth 100000 in
set_option maxHeartbeats 4000000 in
theorem mX2_runMeters (l : Launch) (D : va_G) (ct : Nat → ClassId) (ad : Nat → Nat) (M : Nat → Int32)  (n : Nat) (hw : mW M n) (hs : sW M n) : FMet l yX2_runMeters cX2_runMeters 4 (none : Option Jvm.ClassFile.FieldType) 1 21 D ct 19 ad [.ref (ad 0)] (mkc ct ad M) none (mkc ct ad (cMeS M (hrD M) n)) := by
  refine FMet.of (by decide +kernel) (Nat.le_of_ble_eq_true rfl) ?_
  intro p e s m args below meth c ls hx hb hr hml hown hlocks htg hK hI hP hS hl
  have hl : lv_has ls 4 [(0, .ref (ad 0))] := hl
  have hn10 := hw.2
  refine lv_aload_n hx hb dX2_runMeters_0 rfl (lv_at hl 0 rfl) ?_
  refine mk_g5 hx hb hown htg hK hP fl_X2_58 dX2_runMeters_1 ?_
  refine lv_bipush (v := nI 24) hx hb dX2_runMeters_4 (by decide) ?_
  refine lv_irem hx hb dX2_runMeters_6 (by decide) ?_
  refine lv_istore_n (lv' := [(1, .int ((M 3) - (M 3) / (nI 24) * (nI 24))), (0, .ref (ad 0))]) hx hb dX2_runMeters_7 rfl hl (by decide) rfl (fun ls hl => ?_)
  refine lv_iconst (v := nI 0) hx hb dX2_runMeters_8 (by decide) ?_
  refine lv_istore_n (lv' := [(2, .int (nI 0)), (1, .int ((M 3) - (M 3) / (nI 24) * (nI 24))), (0, .ref (ad 0))]) hx hb dX2_runMeters_9 rfl hl (by decide) rfl (fun ls hl => ?_)
  have lp10 : ∀ (fu10 : Nat) (i : Nat), i ≤ n → n - i < fu10 → ∀ (H : Heap) (locs : List Loc), fP D 19 ad (mkc ct ad (cMeS M (hrD M) i)) H → va_S (fA 19 ad) s.heap H locs → ∀ (ls : Array Slot), lv_has ls 4 [(2, .int (nI i)), (1, .int (hrD M)), (0, .ref (ad 0))] → W p l e ({ frames := 1, cells := 0, slots := 0, locals := 21 }) s m args below meth c H locs 0 0 (MQ below (fQ D ct 19 ad none (mkc ct ad (cMeS M (hrD M) n))) args s 0 0 (fA 19 ad)) (F0 m 10 ls []) := by
    intro fu10
    induction fu10 with
    | zero => intro i hi hfu10; exact absurd hfu10 (Nat.not_lt_zero _)
    | succ fu10 ih10 =>
      intro i hi hfu10 H locs hP hS ls hl
      have hi9 := cMeS_ok (h := hrD M) hw hs i hi
      refine lv_iload_n hx hb dX2_runMeters_10 rfl (lv_at hl 0 rfl) ?_
      refine lv_aload_n hx hb dX2_runMeters_11 rfl (lv_at hl 2 rfl) ?_
      refine mk_g1 hx hb hown htg hK hP fl_X2_41 dX2_runMeters_12 ?_
      refine lv_teq (hi9.1).1 ?_
      refine lv_icmp_geN (tgt := 104) hx hb (by omega) (by omega) dX2_runMeters_15 (by decide) (fun c15 => ?_) (fun c15 => ?_)
      · have e9 : n = i := by omega
        subst e9
        refine fr_vret hx hb hr hlocks hK hI hS dX2_runMeters_104 ?_
        exact hP
      · refine lv_aload_n hx hb dX2_runMeters_18 rfl (lv_at hl 2 rfl) ?_
        refine mk_g0 hx hb hown htg hK hP fl_X2_11 dX2_runMeters_19 ?_
        refine lv_iload_n hx hb dX2_runMeters_22 rfl (lv_at hl 0 rfl) ?_
        refine mk_as hx hb hK hP (by omega) dX2_runMeters_23 ?_
        refine lv_astore_n (lv' := [(3, .ref (ad (5 + i))), (2, .int (nI i)), (1, .int (hrD M)), (0, .ref (ad 0))]) hx hb dX2_runMeters_24 rfl hl (by decide) rfl (fun ls hl => ?_)
        refine lv_aload_n hx hb dX2_runMeters_25 rfl (lv_at hl 0 rfl) ?_
        refine mk_s8 hx hb hown htg hK hP (by omega) fl_X2_100 dX2_runMeters_26 ?_
        refine lv_iconst (v := -1) hx hb dX2_runMeters_29 (by decide) ?_
        refine lv_icmp_eq (tgt := 80) hx hb dX2_runMeters_30 (by decide) (fun c30 => ?_) (fun c30 => ?_)
        · refine lv_aload_n hx hb dX2_runMeters_80 rfl (lv_at hl 0 rfl) ?_
          refine lv_iload_n hx hb dX2_runMeters_81 rfl (lv_at hl 2 rfl) ?_
          refine mk_csr (As := [.int (hrD M)]) (rest := []) (by omega) hx hb hown htg hK hI hS hP hml hl.1 (mX4_wantsAt l D ct ad _ i (hrD M) (by omega)) cw_X2_127 rfl rfl ⟨Nat.le_of_ble_eq_true rfl, Nat.le_of_ble_eq_true rfl⟩ (Nat.le_of_ble_eq_true rfl) dX2_runMeters_82 ⟨Nat.le_refl _, Nat.le_refl _⟩ (fun H locs hP hS => ?_)
          refine lv_ifeqB (tgt := 98) hx hb dX2_runMeters_85 (by decide) (fun c85 => ?_) (fun c85 => ?_)
          · refine lv_iinc (v := nI (i + 1)) (lv' := [(2, .int (nI (i + 1))), (3, .ref (ad (5 + i))), (1, .int (hrD M)), (0, .ref (ad 0))]) hx hb dX2_runMeters_98 hl (k := 1) rfl (nI_add i 1) (by decide) rfl (fun ls hl => ?_)
            refine lv_goto (tgt := 10) hx hb dX2_runMeters_101 (by decide) ?_
            have hl := lv_sub (l' := [(2, .int (nI (i + 1))), (1, .int (hrD M)), (0, .ref (ad 0))]) hl [0, 2, 3] rfl
            have hP := fP.eqc (congrArg (mkc ct ad) (show (cMeS M (hrD M) i) = (cMeS M (hrD M) (i + 1)) from by first | (exfalso; omega) | (simp only [cMeS, cMet, c15, Nat.not_le.mpr c15, c30, c85, decide_true, decide_false, Bool.and_true, Bool.true_and, Bool.and_false, Bool.false_and, Bool.or_true, Bool.true_or, Bool.or_false, Bool.false_or, Bool.and_self, Bool.or_self, if_true, if_false, eq_self, Bool.false_eq_true, Bool.true_eq_false, reduceCtorEq, not_true_eq_false, not_false_eq_true, and_true, true_and, and_false, false_and, or_true, true_or, or_false, false_or, and_self, or_self, Int32.add_zero]; done) | (simp only [cMeS, cMet, c15, Nat.not_le.mpr c15, c30, c85, decide_true, decide_false, Bool.and_true, Bool.true_and, Bool.and_false, Bool.false_and, Bool.or_true, Bool.true_or, Bool.or_false, Bool.false_or, Bool.and_self, Bool.or_self, if_true, if_false, eq_self, Bool.false_eq_true, Bool.true_eq_false, reduceCtorEq, not_true_eq_false, not_false_eq_true, and_true, true_and, and_false, false_and, or_true, true_or, or_false, false_or, and_self, or_self, Int32.add_zero]; rfl) | (simp only [cMeS, cMet, c15, Nat.not_le.mpr c15, c30, c85, decide_true, decide_false, Bool.and_true, Bool.true_and, Bool.and_false, Bool.false_and, Bool.or_true, Bool.true_or, Bool.or_false, Bool.false_or, Bool.and_self, Bool.or_self, if_true, if_false, eq_self, Bool.false_eq_true, Bool.true_eq_false, reduceCtorEq, not_true_eq_false, not_false_eq_true, and_true, true_and, and_false, false_and, or_true, true_or, or_false, false_or, and_self, or_self, Int32.add_zero]; rfl))) hP
            exact ih10 (i + 1) (by omega) (by omega) _ _ hP hS _ hl
          · refine lv_aload_n hx hb dX2_runMeters_88 rfl (lv_at hl 0 rfl) ?_
            refine lv_dup hx hb dX2_runMeters_89 rfl ?_
            refine mk_s7 hx hb hown htg hK hP (by omega) fl_X2_131 dX2_runMeters_90 ?_
            refine lv_iconst (v := nI 1) hx hb dX2_runMeters_93 (by decide) ?_
            refine lv_iadd hx hb dX2_runMeters_94 ?_
            refine mk_sp7 hx hb hown htg hK hI hS hP (by omega) fl_X2_131 dX2_runMeters_95 (fun H locs hP hS => ?_)
            refine lv_iinc (v := nI (i + 1)) (lv' := [(2, .int (nI (i + 1))), (3, .ref (ad (5 + i))), (1, .int (hrD M)), (0, .ref (ad 0))]) hx hb dX2_runMeters_98 hl (k := 1) rfl (nI_add i 1) (by decide) rfl (fun ls hl => ?_)
            refine lv_goto (tgt := 10) hx hb dX2_runMeters_101 (by decide) ?_
            have hl := lv_sub (l' := [(2, .int (nI (i + 1))), (1, .int (hrD M)), (0, .ref (ad 0))]) hl [0, 2, 3] rfl
            have hP := fP.eqc (congrArg (mkc ct ad) (show (upd (cMeS M (hrD M) i) (39 + 8 * i + 7) (((cMeS M (hrD M) i) (39 + 8 * i + 7)) + (nI 1))) = (cMeS M (hrD M) (i + 1)) from by first | (exfalso; omega) | (simp only [cMeS, cMet, c15, Nat.not_le.mpr c15, c30, c85, decide_true, decide_false, Bool.and_true, Bool.true_and, Bool.and_false, Bool.false_and, Bool.or_true, Bool.true_or, Bool.or_false, Bool.false_or, Bool.and_self, Bool.or_self, if_true, if_false, eq_self, Bool.false_eq_true, Bool.true_eq_false, reduceCtorEq, not_true_eq_false, not_false_eq_true, and_true, true_and, and_false, false_and, or_true, true_or, or_false, false_or, and_self, or_self, Int32.add_zero]; done) | (simp only [cMeS, cMet, c15, Nat.not_le.mpr c15, c30, c85, decide_true, decide_false, Bool.and_true, Bool.true_and, Bool.and_false, Bool.false_and, Bool.or_true, Bool.true_or, Bool.or_false, Bool.false_or, Bool.and_self, Bool.or_self, if_true, if_false, eq_self, Bool.false_eq_true, Bool.true_eq_false, reduceCtorEq, not_true_eq_false, not_false_eq_true, and_true, true_and, and_false, false_and, or_true, true_or, or_false, false_or, and_self, or_self, Int32.add_zero]; rfl) | (simp only [cMeS, cMet, c15, Nat.not_le.mpr c15, c30, c85, decide_true, decide_false, Bool.and_true, Bool.true_and, Bool.and_false, Bool.false_and, Bool.or_true, Bool.true_or, Bool.or_false, Bool.false_or, Bool.and_self, Bool.or_self, if_true, if_false, eq_self, Bool.false_eq_true, Bool.true_eq_false, reduceCtorEq, not_true_eq_false, not_false_eq_true, and_true, true_and, and_false, false_and, or_true, true_or, or_false, false_or, and_self, or_self, Int32.add_zero]; rfl))) hP
            exact ih10 (i + 1) (by omega) (by omega) _ _ hP hS _ hl
        · have hs9 := hi9.2 i (by omega) c30
          have hs49 := hs9.2
          refine lv_aload_n hx hb dX2_runMeters_33 rfl (lv_at hl 0 rfl) ?_
          refine lv_dup hx hb dX2_runMeters_34 rfl ?_
          refine mk_s6 hx hb hown htg hK hP (by omega) fl_X2_121 dX2_runMeters_35 ?_
          refine lv_aload_n hx hb dX2_runMeters_38 rfl (lv_at hl 0 rfl) ?_
          refine mk_s0 hx hb hown htg hK hP (by omega) fl_X2_103 dX2_runMeters_39 ?_
          refine lv_iadd hx hb dX2_runMeters_42 ?_
          refine mk_sp6 hx hb hown htg hK hI hS hP (by omega) fl_X2_121 dX2_runMeters_43 (fun H locs hP hS => ?_)
          refine lv_aload_n hx hb dX2_runMeters_46 rfl (lv_at hl 3 rfl) ?_
          refine mk_g2 hx hb hown htg hK hP fl_X2_19 dX2_runMeters_47 ?_
          refine lv_aload_n hx hb dX2_runMeters_50 rfl (lv_at hl 0 rfl) ?_
          refine mk_s8 hx hb hown htg hK hP (by omega) fl_X2_100 dX2_runMeters_51 ?_
          refine lv_teq ((show (upd (cMeS M (hrD M) i) (39 + 8 * i + 6) (((cMeS M (hrD M) i) (39 + 8 * i + 6)) + ((cMeS M (hrD M) i) (39 + 8 * i + 0)))) (119 + i) = (cMeS M (hrD M) i) (119 + i) from by simp (disch := omega) only [upd_n]).trans hs9.1) ?_
          refine mk_ab hx hb hK hP (by omega) dX2_runMeters_54 ?_
          refine lv_dup hx hb dX2_runMeters_55 rfl ?_
          refine mk_b4 hx hb hown htg hK hP (by omega) fl_X2_124 dX2_runMeters_56 ?_
          refine lv_aload_n hx hb dX2_runMeters_59 rfl (lv_at hl 0 rfl) ?_
          refine mk_s0 hx hb hown htg hK hP (by omega) fl_X2_103 dX2_runMeters_60 ?_
          refine lv_iadd hx hb dX2_runMeters_63 ?_
          refine mk_bp4 hx hb hown htg hK hI hS hP (by omega) fl_X2_124 dX2_runMeters_64 (fun H locs hP hS => ?_)
          refine lv_aload_n hx hb dX2_runMeters_67 rfl (lv_at hl 3 rfl) ?_
          refine lv_dup hx hb dX2_runMeters_68 rfl ?_
          refine mk_g6 hx hb hown htg hK hP fl_X2_61 dX2_runMeters_69 ?_
          refine lv_iconst (v := nI 1) hx hb dX2_runMeters_72 (by decide) ?_
          refine lv_iadd hx hb dX2_runMeters_73 ?_
          refine mk_p6 hx hb hown htg hK hI hS hP fl_X2_61 dX2_runMeters_74 (fun H locs hP hS => ?_)
          refine lv_goto (tgt := 98) hx hb dX2_runMeters_77 (by decide) ?_
          refine lv_iinc (v := nI (i + 1)) (lv' := [(2, .int (nI (i + 1))), (3, .ref (ad (5 + i))), (1, .int (hrD M)), (0, .ref (ad 0))]) hx hb dX2_runMeters_98 hl (k := 1) rfl (nI_add i 1) (by decide) rfl (fun ls hl => ?_)
          refine lv_goto (tgt := 10) hx hb dX2_runMeters_101 (by decide) ?_
          have hl := lv_sub (l' := [(2, .int (nI (i + 1))), (1, .int (hrD M)), (0, .ref (ad 0))]) hl [0, 2, 3] rfl
          have hP := fP.eqc (congrArg (mkc ct ad) (show (upd (upd (upd (cMeS M (hrD M) i) (39 + 8 * i + 6) (((cMeS M (hrD M) i) (39 + 8 * i + 6)) + ((cMeS M (hrD M) i) (39 + 8 * i + 0)))) (7 + 5 * (iN ((cMeS M (hrD M) i) (119 + i))) + 4) (((upd (cMeS M (hrD M) i) (39 + 8 * i + 6) (((cMeS M (hrD M) i) (39 + 8 * i + 6)) + ((cMeS M (hrD M) i) (39 + 8 * i + 0)))) (7 + 5 * (iN ((cMeS M (hrD M) i) (119 + i))) + 4)) + ((upd (cMeS M (hrD M) i) (39 + 8 * i + 6) (((cMeS M (hrD M) i) (39 + 8 * i + 6)) + ((cMeS M (hrD M) i) (39 + 8 * i + 0)))) (39 + 8 * i + 0)))) (6) (((upd (upd (cMeS M (hrD M) i) (39 + 8 * i + 6) (((cMeS M (hrD M) i) (39 + 8 * i + 6)) + ((cMeS M (hrD M) i) (39 + 8 * i + 0)))) (7 + 5 * (iN ((cMeS M (hrD M) i) (119 + i))) + 4) (((upd (cMeS M (hrD M) i) (39 + 8 * i + 6) (((cMeS M (hrD M) i) (39 + 8 * i + 6)) + ((cMeS M (hrD M) i) (39 + 8 * i + 0)))) (7 + 5 * (iN ((cMeS M (hrD M) i) (119 + i))) + 4)) + ((upd (cMeS M (hrD M) i) (39 + 8 * i + 6) (((cMeS M (hrD M) i) (39 + 8 * i + 6)) + ((cMeS M (hrD M) i) (39 + 8 * i + 0)))) (39 + 8 * i + 0)))) 6) + (nI 1))) = (cMeS M (hrD M) (i + 1)) from by first | (exfalso; omega) | (simp only [cMeS, cMet, c15, Nat.not_le.mpr c15, c30, decide_true, decide_false, Bool.and_true, Bool.true_and, Bool.and_false, Bool.false_and, Bool.or_true, Bool.true_or, Bool.or_false, Bool.false_or, Bool.and_self, Bool.or_self, if_true, if_false, eq_self, Bool.false_eq_true, Bool.true_eq_false, reduceCtorEq, not_true_eq_false, not_false_eq_true, and_true, true_and, and_false, false_and, or_true, true_or, or_false, false_or, and_self, or_self, Int32.add_zero]; done) | (simp only [cMeS, cMet, c15, Nat.not_le.mpr c15, c30, decide_true, decide_false, Bool.and_true, Bool.true_and, Bool.and_false, Bool.false_and, Bool.or_true, Bool.true_or, Bool.or_false, Bool.false_or, Bool.and_self, Bool.or_self, if_true, if_false, eq_self, Bool.false_eq_true, Bool.true_eq_false, reduceCtorEq, not_true_eq_false, not_false_eq_true, and_true, true_and, and_false, false_and, or_true, true_or, or_false, false_or, and_self, or_self, Int32.add_zero]; rfl) | (simp only [cMeS, cMet, c15, Nat.not_le.mpr c15, c30, decide_true, decide_false, Bool.and_true, Bool.true_and, Bool.and_false, Bool.false_and, Bool.or_true, Bool.true_or, Bool.or_false, Bool.false_or, Bool.and_self, Bool.or_self, if_true, if_false, eq_self, Bool.false_eq_true, Bool.true_eq_false, reduceCtorEq, not_true_eq_false, not_false_eq_true, and_true, true_and, and_false, false_and, or_true, true_or, or_false, false_or, and_self, or_self, Int32.add_zero]; rfl))) hP
          exact ih10 (i + 1) (by omega) (by omega) _ _ hP hS _ hl
  have hl := lv_sub (l' := [(2, .int (nI 0)), (1, .int ((M 3) - (M 3) / (nI 24) * (nI 24))), (0, .ref (ad 0))]) hl [0, 1, 2] rfl
  have le1 : Value.int ((M 3) - (M 3) / (nI 24) * (nI 24)) = Value.int (hrD M) := by rfl
  have hl := lv_hasE hl (lcons rfl (lcons le1 (lcons rfl rfl)))
  have hP := fP.eqc (congrArg (mkc ct ad) (show M = (cMeS M (hrD M) 0) from by rfl)) hP
  exact lp10 (n - 0 + 1) 0 (by omega) (Nat.lt_succ_self _) _ _ hP hS _ hl

