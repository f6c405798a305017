/-! THE REFERENCE: reasons, loads, who is shed first -/
def drN (Z : Nat → Int32) (b : Nat) : Nat → Nat
  | 0 => 0
  | i + 1 => drN Z b i + (if drwB Z i b = true then 1 else 0)
/-- a stall's number, or none: 10 -/
def ox (x : Nat) : Int32 := if x = 10 then -1 else nI x
theorem ox_10 {x : Nat} (h : x = 10) : ox x = -1 := if_pos h
theorem ox_n {x : Nat} (h : x ≠ 10) : ox x = nI x := if_neg h
theorem ox_m {x : Nat} (hx : x ≤ 10) (h : ox x = -1) : x = 10 := by
  by_cases h1 : x = 10
  · exact h1
  · rw [ox_n h1] at h
    have h2 := congrArg Int32.toInt h
    rw [nI_toInt (by omega)] at h2
    have h3 : (-1 : Int32).toInt = -1 := by decide
    rw [h3] at h2
    omega
theorem ox_nm {x : Nat} (h : ¬ ox x = -1) : x ≠ 10 := fun q => h (ox_10 q)
def ftn (Z : Nat → Int32) (b : Nat) : Nat → Nat
  | 0 => 10
  | i + 1 => if drwB Z i b = true ∧ (ftn Z b i = 10 ∨ gofB Z i (ftn Z b i) = true) then i else ftn Z b i
theorem ftn_lt (Z : Nat → Int32) (b : Nat) : ∀ i, ftn Z b i = 10 ∨ ftn Z b i < i
  | 0 => Or.inl rfl
  | i + 1 => by
    unfold ftn
    rcases ftn_lt Z b i with h | h <;> split <;> omega
theorem ftn_le (Z : Nat → Int32) (b i : Nat) (h : i ≤ 10) : ftn Z b i ≤ 10 := by
  rcases ftn_lt Z b i with h1 | h1 <;> omega
theorem ftn_drw (Z : Nat → Int32) (b : Nat) : ∀ i, ftn Z b i ≠ 10 → drwB Z (ftn Z b i) b = true
  | 0, h => absurd rfl h
  | i + 1, h => by
    unfold ftn at h ⊢
    split
    · rename_i q; exact q.1
    · rename_i q; rw [if_neg q] at h; exact ftn_drw Z b i h
theorem ftn_none (Z : Nat → Int32) (b : Nat) : ∀ i, i ≤ 10 → ftn Z b i = 10 → ∀ j, j < i → drwB Z j b = false
  | 0, _, _, j, hj => absurd hj (Nat.not_lt_zero _)
  | i + 1, hi, h, j, hj => by
    unfold ftn at h
    by_cases q : drwB Z i b = true ∧ (ftn Z b i = 10 ∨ gofB Z i (ftn Z b i) = true)
    · rw [if_pos q] at h; omega
    · rw [if_neg q] at h
      rcases Nat.lt_succ_iff_lt_or_eq.mp hj with h1 | rfl
      · exact ftn_none Z b i (by omega) h j h1
      · cases h2 : drwB Z j b
        · rfl
        · exact absurd ⟨h2, Or.inl h⟩ q
theorem ftn_no {Z : Nat → Int32} {b i : Nat} (h : drwB Z i b = false) : ftn Z b (i + 1) = ftn Z b i := by
  show (if _ then _ else _) = _
  rw [if_neg (by rw [h]; simp)]
theorem ftn_first {Z : Nat → Int32} {b i : Nat} (h : drwB Z i b = true) (h2 : ftn Z b i = 10) : ftn Z b (i + 1) = i := by
  show (if _ then _ else _) = _
  rw [if_pos ⟨h, Or.inl h2⟩]
theorem ftn_better {Z : Nat → Int32} {b i : Nat} (h : drwB Z i b = true) (h2 : gofB Z i (ftn Z b i) = true) : ftn Z b (i + 1) = i := by
  show (if _ then _ else _) = _
  rw [if_pos ⟨h, Or.inr h2⟩]
theorem ftn_worse {Z : Nat → Int32} {b i : Nat} (h : ftn Z b i ≠ 10) (h2 : gofB Z i (ftn Z b i) = false) : ftn Z b (i + 1) = ftn Z b i := by
  show (if _ then _ else _) = _
  rw [if_neg (by rw [h2]; simp [h])]
theorem carS_0 (Z : Nat → Int32) (b : Nat) : ∀ i, (∀ j, j < i → drwB Z j b = false) → carS Z b i = 0
  | 0, _ => rfl
  | i + 1, h => by
    unfold carS
    rw [carS_0 Z b i (fun j hj => h j (by omega)), h i (by omega)]
    rfl
def shC (Z : Nat → Int32) (b n : Nat) : Bool := decide (Z 1 = nI 1) && decide (Z (7 + 5 * b + 1) = nI 1) && decide (Z (7 + 5 * b + 0) < carS Z b n)
def shS (Z : Nat → Int32) (b n : Nat) : Nat → Int32 := upd (upd Z (39 + 8 * ftn Z b n + 5) (nI 1)) 5 ((upd Z (39 + 8 * ftn Z b n + 5) (nI 1)) 5 + nI 1)
def shL (b n : Nat) : Nat → (Nat → Int32) → Nat → Int32
  | 0, Z => Z
  | f + 1, Z => if shC Z b n = true then shL b n f (shS Z b n) else Z
def shdZ (Z : Nat → Int32) (b n : Nat) : Nat → Int32 := shL b n 10 Z
theorem upd_s {f : Nat → Int32} {k : Nat} {x : Int32} : upd f k x k = x := if_pos rfl
theorem upd_n {f : Nat → Int32} {k j : Nat} {x : Int32} (h : j ≠ k) : upd f k x j = f j := if_neg h
theorem shC_ftn {Z : Nat → Int32} {b n : Nat} (h : zW Z n) (hb : b < 4) (hC : Z (7 + 5 * b + 0) < carS Z b n) : ftn Z b n ≠ 10 := by
  intro q
  rw [carS_0 Z b n (ftn_none Z b n h.1 q)] at hC
  exact Int32.not_lt.mpr (h.2.2.2 b hb) hC
theorem drN_eq {Z Y : Nat → Int32} {b : Nat} : ∀ i, (∀ j, j < i → drwB Y j b = drwB Z j b) → drN Y b i = drN Z b i
  | 0, _ => rfl
  | i + 1, h => by unfold drN; rw [drN_eq i (fun j hj => h j (by omega)), h i (by omega)]
theorem drN_lt {Z Y : Nat → Int32} {b k : Nat} : ∀ i, k < i → (∀ j, j < i → j ≠ k → drwB Y j b = drwB Z j b) → drwB Z k b = true → drwB Y k b = false → drN Y b i < drN Z b i
  | 0, hk, _, _, _ => absurd hk (Nat.not_lt_zero _)
  | i + 1, hk, h, h1, h2 => by
    unfold drN
    by_cases e : k = i
    · subst e
      rw [h1, h2, drN_eq k (fun j hj => h j (by omega) (by omega))]
      simp
    · have := drN_lt i (by omega) (fun j hj hne => h j (by omega) hne) h1 h2
      rw [h i (by omega) (Ne.symm e)]
      omega
/-- what two rows that differ in a stall's shedding alone say alike -/
theorem brk_congr {Z Y : Nat → Int32} {q : Nat} (hY : Y (27 + q) = Z (27 + q)) : brk Y q = brk Z q := by unfold brk; rw [hY]
theorem wantB_congr {Z Y : Nat → Int32} {k : Nat} (h3 : Y 3 = Z 3) (h1 : Y (39 + 8 * k + 1) = Z (39 + 8 * k + 1)) (h2 : Y (39 + 8 * k + 2) = Z (39 + 8 * k + 2)) : wantB Y k = wantB Z k := by unfold wantB hrD; rw [h3, h1, h2]
theorem skt_congr {Z Y : Nat → Int32} {k : Nat} (h : Y (39 + 8 * k + 4) = Z (39 + 8 * k + 4)) : skt Y k = skt Z k := by unfold skt; rw [h]
theorem onB_congr {Z Y : Nat → Int32} {k b : Nat} (h : Y (39 + 8 * k + 4) = Z (39 + 8 * k + 4)) (hk : ∀ q, q < 12 → Y (27 + q) = Z (27 + q)) (hq : ¬ Z (39 + 8 * k + 4) = -1 → skt Z k < 12) : onB Y k b = onB Z k b := by
  unfold onB
  rw [h, skt_congr h]
  by_cases e : Z (39 + 8 * k + 4) = -1
  · rw [if_pos e, if_pos e]
  · rw [if_neg e, if_neg e, brk_congr (hk _ (hq e))]
theorem rsn_congr {Z Y : Nat → Int32} {k : Nat} (h3 : Y 3 = Z 3) (hs : ∀ w, w < 6 → Y (39 + 8 * k + w) = Z (39 + 8 * k + w)) (hk : ∀ q, q < 12 → Y (27 + q) = Z (27 + q)) (hb : ∀ b, b < 4 → Y (7 + 5 * b + 1) = Z (7 + 5 * b + 1)) (hq : ¬ Z (39 + 8 * k + 4) = -1 → skt Z k < 12) : rsn Y k = rsn Z k := by
  unfold rsn
  rw [wantB_congr h3 (hs 1 (by omega)) (hs 2 (by omega)), hs 4 (by omega), hs 5 (by omega), skt_congr (hs 4 (by omega))]
  by_cases e : Z (39 + 8 * k + 4) = -1
  · rw [if_pos e, if_pos e]
  · rw [if_neg e, if_neg e, brk_congr (hk _ (hq e)), hb _ (brk_lt (hq e))]
theorem drwB_congr {Z Y : Nat → Int32} {k b : Nat} (h3 : Y 3 = Z 3) (hs : ∀ w, w < 6 → Y (39 + 8 * k + w) = Z (39 + 8 * k + w)) (hk : ∀ q, q < 12 → Y (27 + q) = Z (27 + q)) (hb : ∀ b, b < 4 → Y (7 + 5 * b + 1) = Z (7 + 5 * b + 1)) (hq : ¬ Z (39 + 8 * k + 4) = -1 → skt Z k < 12) : drwB Y k b = drwB Z k b := by
  unfold drwB
  rw [onB_congr (hs 4 (by omega)) hk hq, rsn_congr h3 hs hk hb hq]
theorem shS_at {Z : Nat → Int32} {b n j : Nat} (h5 : j ≠ 5) (hj : j ≠ 39 + 8 * ftn Z b n + 5) : shS Z b n j = Z j := by
  unfold shS
  rw [upd_n h5, upd_n hj]
theorem shS_zW {Z : Nat → Int32} {b n : Nat} (h : zW Z n) : zW (shS Z b n) n :=
  zW_upd (zW_upd h (by omega) (fun _ _ => by omega) (fun _ _ => by omega)) (by omega) (fun _ _ => by omega) (fun _ _ => by omega)
theorem rsn_shed {Z : Nat → Int32} {k : Nat} (h : Z (39 + 8 * k + 5) = nI 1) : rsn Z k ≠ 0 := by
  unfold rsn
  rw [if_pos h]
  repeat' split
  all_goals omega
theorem shS_dr {Z : Nat → Int32} {b n j : Nat} (h : zW Z n) (hj : j < n) (hne : j ≠ ftn Z b n) (c : Nat) : drwB (shS Z b n) j c = drwB Z j c :=
  drwB_congr (shS_at (by omega) (by omega)) (fun w hw => shS_at (by omega) (by omega)) (fun q hq => shS_at (by omega) (by omega)) (fun b hb => shS_at (by omega) (by omega)) (skt_lt h hj)
theorem shS_dr0 {Z : Nat → Int32} {b n : Nat} (c : Nat) : drwB (shS Z b n) (ftn Z b n) c = false := by
  have h : rsn (shS Z b n) (ftn Z b n) ≠ 0 := rsn_shed (by unfold shS; rw [upd_n (by omega), upd_s])
  unfold drwB
  simp [h]
theorem drN_sh {Z : Nat → Int32} {b n : Nat} (h : zW Z n) (h1 : ftn Z b n ≠ 10) : drN (shS Z b n) b n < drN Z b n := by
  have hl : ftn Z b n < n := by rcases ftn_lt Z b n with q | q; exact absurd q h1; exact q
  exact drN_lt n hl (fun j hj hne => shS_dr h hj hne b) (ftn_drw Z b n h1) (shS_dr0 b)
theorem drN_le (Z : Nat → Int32) (b : Nat) : ∀ i, drN Z b i ≤ i
  | 0 => Nat.le_refl 0
  | i + 1 => by unfold drN; have := drN_le Z b i; split <;> omega
theorem shL_zW {b n : Nat} : ∀ f {Z : Nat → Int32}, zW Z n → zW (shL b n f Z) n
  | 0, _, h => h
  | f + 1, Z, h => by
    unfold shL
    split
    · exact shL_zW f (shS_zW h)
    · exact h
theorem shdZ_zW {Z : Nat → Int32} {b n : Nat} (h : zW Z n) : zW (shdZ Z b n) n := shL_zW 10 h
