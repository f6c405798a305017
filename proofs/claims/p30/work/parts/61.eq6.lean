/-! CLASS AND REFERENCE: what a row of numbers keeps, the heat, the meters, an hour -/
def cOk (n i : Nat) (x : Int32) : Prop :=
  (i = 0 → ∃ c, 1 ≤ c ∧ c ≤ 9 ∧ x = nI c) ∧ (i = 4 → x = nI n) ∧ (i = 1 → x = 0 ∨ x = 1)
  ∧ (∀ k, k < n → i = 39 + 8 * k + 0 → ∃ a, 1 ≤ a ∧ a ≤ 500 ∧ x = nI a)
  ∧ (∀ k, k < n → i = 39 + 8 * k + 3 → ∃ a, 1 ≤ a ∧ a ≤ 9 ∧ x = nI a)
  ∧ (∀ k, k < n → i = 39 + 8 * k + 4 → x = -1 ∨ ∃ q, q < 12 ∧ x = nI q)
  ∧ (∀ k, k < n → i = 39 + 8 * k + 5 → x = 0 ∨ x = 1)
  ∧ (∀ b, b < 4 → i = 7 + 5 * b + 0 → ∃ a, 10 ≤ a ∧ a ≤ 999 ∧ x = nI a)
  ∧ (∀ b, b < 4 → i = 7 + 5 * b + 1 → x = 0 ∨ x = 1)
  ∧ (∀ b, b < 4 → i = 7 + 5 * b + 2 → ∃ a, a ≤ 600 ∧ x = nI a)
  ∧ (∀ q, q < 12 → i = 27 + q → x = 0 ∨ x = 1)
/-- a row that is in order -/
def oI (Z : Nat → Int32) (n : Nat) : Prop := n ≤ 10 ∧ ∀ i, i < 39 + 8 * n → cOk n i (Z i)
/-- a breaker that is on isn't too hot -/
def hOn (Z : Nat → Int32) : Prop := ∀ b, b < 4 → Z (7 + 5 * b + 1) = nI 1 → ∃ a, a ≤ 9 ∧ Z (7 + 5 * b + 2) = nI a
theorem oI_upd {Z : Nat → Int32} {n i : Nat} {x : Int32} (h : oI Z n) (hx : cOk n i x) : oI (upd Z i x) n := by
  refine ⟨h.1, fun j hj => ?_⟩
  by_cases e : j = i
  · subst e; rw [upd_s]; exact hx
  · rw [upd_n e]; exact h.2 j hj
theorem oI_eq {M Z : Nat → Int32} {n : Nat} (h : oI Z n) (he : eqZ M Z n) : oI M n := ⟨h.1, fun i hi => by rw [he i hi]; exact h.2 i hi⟩
theorem cOk_free {n i : Nat} {x : Int32} (h0 : i ≠ 0) (h1 : i ≠ 1) (h4 : i ≠ 4) (hk : ∀ k, k < n → i ≠ 39 + 8 * k + 0 ∧ i ≠ 39 + 8 * k + 3 ∧ i ≠ 39 + 8 * k + 4 ∧ i ≠ 39 + 8 * k + 5) (hb : ∀ b, b < 4 → i ≠ 7 + 5 * b + 0 ∧ i ≠ 7 + 5 * b + 1 ∧ i ≠ 7 + 5 * b + 2) (hq : ∀ q, q < 12 → i ≠ 27 + q) : cOk n i x :=
  ⟨fun e => absurd e h0, fun e => absurd e h4, fun e => absurd e h1, fun k hk1 e => absurd e (hk k hk1).1, fun k hk1 e => absurd e (hk k hk1).2.1, fun k hk1 e => absurd e (hk k hk1).2.2.1, fun k hk1 e => absurd e (hk k hk1).2.2.2, fun b hb1 e => absurd e (hb b hb1).1, fun b hb1 e => absurd e (hb b hb1).2.1, fun b hb1 e => absurd e (hb b hb1).2.2, fun q hq1 e => absurd e (hq q hq1)⟩
theorem cOk_flag {n i : Nat} {x : Int32} (hx : x = 0 ∨ x = 1) (h0 : i ≠ 0) (h4 : i ≠ 4) (hk : ∀ k, k < n → i ≠ 39 + 8 * k + 0 ∧ i ≠ 39 + 8 * k + 3 ∧ i ≠ 39 + 8 * k + 4) (hb : ∀ b, b < 4 → i ≠ 7 + 5 * b + 0 ∧ i ≠ 7 + 5 * b + 2) : cOk n i x :=
  ⟨fun e => absurd e h0, fun e => absurd e h4, fun _ => hx, fun k hk1 e => absurd e (hk k hk1).1, fun k hk1 e => absurd e (hk k hk1).2.1, fun k hk1 e => absurd e (hk k hk1).2.2, fun _ _ _ => hx, fun b hb1 e => absurd e (hb b hb1).1, fun _ _ _ => hx, fun b hb1 e => absurd e (hb b hb1).2, fun _ _ _ => hx⟩
theorem cOk_heat {n b a : Nat} {x : Int32} (hn : n ≤ 10) (hb4 : b < 4) (ha : a ≤ 600) (hx : x = nI a) : cOk n (7 + 5 * b + 2) x :=
  ⟨fun e => by omega, fun e => by omega, fun e => by omega, fun k hk1 e => by omega, fun k hk1 e => by omega, fun k hk1 e => by omega, fun k hk1 e => by omega, fun c hb1 e => by omega, fun c hb1 e => by omega, fun _ _ _ => ⟨a, ha, hx⟩, fun q hq1 e => by omega⟩
theorem oI_zW {Z : Nat → Int32} {n : Nat} (h : oI Z n) : zW Z n := by
  refine ⟨h.1, (h.2 4 (by omega)).2.1 rfl, fun k hk => (h.2 _ (show 39 + 8 * k + 4 < 39 + 8 * n by omega)).2.2.2.2.2.1 k hk rfl, fun b hb => ?_⟩
  obtain ⟨a, h1, h2, h3⟩ := (h.2 _ (show 7 + 5 * b + 0 < 39 + 8 * n by omega)).2.2.2.2.2.2.2.1 b hb rfl
  rw [h3]; exact nI_pos' (by omega)
theorem oI_bW {Z : Nat → Int32} {n : Nat} (h : oI Z n) : bW Z n :=
  ⟨fun k hk => (h.2 _ (show 39 + 8 * k + 5 < 39 + 8 * n by omega)).2.2.2.2.2.2.1 k hk rfl, fun b hb => (h.2 _ (show 7 + 5 * b + 1 < 39 + 8 * n by omega)).2.2.2.2.2.2.2.2.1 b hb rfl, fun q hq => (h.2 _ (show 27 + q < 39 + 8 * n by omega)).2.2.2.2.2.2.2.2.2.2 q hq rfl⟩
theorem oI_mW {Z : Nat → Int32} {n : Nat} (h : oI Z n) : mW Z n := ⟨(h.2 4 (by omega)).2.1 rfl, h.1⟩
theorem oI_load {Z : Nat → Int32} {n k : Nat} (h : oI Z n) (hk : k < n) : ∃ a, 1 ≤ a ∧ a ≤ 500 ∧ Z (39 + 8 * k + 0) = nI a := (h.2 _ (show 39 + 8 * k + 0 < 39 + 8 * n by omega)).2.2.2.1 k hk rfl
theorem oI_rank {Z : Nat → Int32} {n k : Nat} (h : oI Z n) (hk : k < n) : ∃ a, 1 ≤ a ∧ a ≤ 9 ∧ Z (39 + 8 * k + 3) = nI a := (h.2 _ (show 39 + 8 * k + 3 < 39 + 8 * n by omega)).2.2.2.2.1 k hk rfl
theorem oI_bound {Z : Nat → Int32} {n b : Nat} (h : oI Z n) (hb : b < 4) : ∃ a, 10 ≤ a ∧ a ≤ 999 ∧ Z (7 + 5 * b + 0) = nI a := (h.2 _ (show 7 + 5 * b + 0 < 39 + 8 * n by omega)).2.2.2.2.2.2.2.1 b hb rfl
theorem oI_heat {Z : Nat → Int32} {n b : Nat} (h : oI Z n) (hb : b < 4) : ∃ a, a ≤ 600 ∧ Z (7 + 5 * b + 2) = nI a := (h.2 _ (show 7 + 5 * b + 2 < 39 + 8 * n by omega)).2.2.2.2.2.2.2.2.2.1 b hb rfl
theorem oI_cool {Z : Nat → Int32} {n : Nat} (h : oI Z n) : ∃ c, 1 ≤ c ∧ c ≤ 9 ∧ Z 0 = nI c := (h.2 0 (by omega)).1 rfl
theorem oI_rk {Z : Nat → Int32} {n : Nat} (h : oI Z n) : ∀ k, k < n → nI 0 < Z (39 + 8 * k + 3) := by
  intro k hk
  obtain ⟨a, h1, h2, h3⟩ := oI_rank h hk
  rw [h3]; exact nI_lt (by omega) (by omega)
theorem nI_sb {a b : Nat} (h : b ≤ a) : nI a - nI b = nI (a - b) := by
  have e : nI a = nI (a - b) + nI b := by rw [nI_add, Nat.sub_add_cancel h]
  rw [e, Int32.add_sub_cancel]
theorem nI_neg {a b : Nat} (h : a ≤ b) (hb : b < 1000000) : ¬ nI 0 < nI a - nI b := by
  rw [Int32.lt_iff_toInt_lt, Int32.toInt_sub, nI_toInt (by omega), nI_toInt (by omega), nI_toInt (by omega)]
  rw [Int.bmod_eq_of_le (by omega) (by omega)]
  omega
theorem car_n {Z : Nat → Int32} {n : Nat} (h : oI Z n) (b : Nat) : ∀ i, i ≤ n → ∃ c, c ≤ 500 * i ∧ carS Z b i = nI c
  | 0, _ => ⟨0, Nat.le_refl 0, nI_0.symm⟩
  | i + 1, hi => by
    obtain ⟨c, h1, h2⟩ := car_n h b i (by omega)
    obtain ⟨a, a1, a2, a3⟩ := oI_load h (show i < n by omega)
    unfold carS
    rw [h2, a3]
    by_cases d : drwB Z i b = true
    · rw [if_pos d, nI_add]; exact ⟨c + a, by omega, rfl⟩
    · rw [if_neg d, Int32.add_zero]; exact ⟨c, by omega, rfl⟩
/-- how hot a breaker is then: both say the same -/
def htV (on bd cr ht c : Int32) : Int32 := if (!decide (on = 0) && decide (bd < cr)) = true then ht + ((cr - bd) / nI 10 + nI 1) else if nI 0 < ht - c then ht - c else nI 0
theorem htV_eq {on : Int32} {bd cr ht c : Nat} (ho : on = 0 ∨ on = 1) (h1 : bd ≤ 999) (h2 : cr ≤ 5000) (h3 : ht ≤ 600) (h4 : c ≤ 9) : htV on (nI bd) (nI cr) (nI ht) (nI c) = if on = nI 1 ∧ 0 < nI cr - nI bd then nI ht + (nI cr - nI bd) / nI 10 + nI 1 else if nI ht < nI c then nI 0 else nI ht - nI c := by
  have e0 : (0 : Int32) = nI 0 := nI_0.symm
  have k1 : (0 : Int32) < nI cr - nI bd ↔ bd < cr := by
    rw [e0]
    by_cases q : bd < cr
    · rw [nI_sb (by omega)]; exact ⟨fun _ => q, fun _ => nI_lt (by omega) (by omega)⟩
    · exact ⟨fun w => absurd w (nI_neg (by omega) (by omega)), fun w => absurd w q⟩
  have k2 : nI bd < nI cr ↔ bd < cr := nI_ltI (by omega) (by omega)
  have k3 : (if nI 0 < nI ht - nI c then nI ht - nI c else nI 0) = if nI ht < nI c then nI 0 else nI ht - nI c := by
    by_cases q : ht < c
    · rw [if_neg (nI_neg (by omega) (by omega)), if_pos (nI_lt q (by omega))]
    · rw [if_neg (c := nI ht < nI c) (fun w => q ((nI_ltI (by omega) (by omega)).mp w)), nI_sb (by omega)]
      by_cases q2 : ht = c
      · rw [if_neg (fun w => by have := (nI_ltI (by omega) (by omega)).mp w; omega), q2, Nat.sub_self]
      · rw [if_pos (nI_lt (by omega) (by omega))]
  have n1 : ¬ (0 : Int32) = nI 1 := by decide
  have n2 : ¬ (1 : Int32) = 0 := by decide
  have n3 : (1 : Int32) = nI 1 := rfl
  unfold htV
  rw [k3]
  rcases ho with rfl | rfl
  · rw [if_neg (c := _ ∧ _) (fun w => n1 w.1), if_neg (by simp)]
  · by_cases q : bd < cr
    · rw [if_pos (by rw [decide_eq_false n2, decide_eq_true (k2.mpr q)]; rfl), if_pos ⟨n3, k1.mpr q⟩, Int32.add_assoc]
    · rw [if_neg (by rw [decide_eq_false (fun w => q (k2.mp w))]; simp), if_neg (c := (1 : Int32) = nI 1 ∧ 0 < nI cr - nI bd) (fun w => q (k1.mp w.2))]
theorem htV_n {on : Int32} {bd cr ht c : Nat} (h2 : cr ≤ 5000) (h3 : ht ≤ 600) (h4 : c ≤ 9) (h1 : bd ≤ 999) (ho : on = nI 1 → ht ≤ 9) : ∃ a, a ≤ 600 ∧ (if on = nI 1 ∧ 0 < nI cr - nI bd then nI ht + (nI cr - nI bd) / nI 10 + nI 1 else if nI ht < nI c then nI 0 else nI ht - nI c) = nI a := by
  by_cases q : on = nI 1 ∧ 0 < nI cr - nI bd
  · rw [if_pos q]
    have hb : bd < cr := by
      refine Nat.lt_of_not_le (fun w => nI_neg w (by omega) ?_)
      rw [nI_0]; exact q.2
    have hd : nI (cr - bd) / nI 10 = nI ((cr - bd) / 10) := pk_div (by omega) (by omega) (by omega)
    rw [nI_sb (by omega), hd, nI_add, nI_add]
    have := ho q.1
    exact ⟨_, by omega, rfl⟩
  · rw [if_neg q]
    by_cases q2 : ht < c
    · rw [if_pos (nI_lt q2 (by omega))]; exact ⟨0, by omega, rfl⟩
    · rw [if_neg (fun w => q2 ((nI_ltI (by omega) (by omega)).mp w)), nI_sb (by omega)]; exact ⟨_, by omega, rfl⟩

