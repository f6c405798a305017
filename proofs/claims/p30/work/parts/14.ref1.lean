/-! THE REFERENCE, as functions of its row of numbers -/
def inB (v lo hi : Int32) : Bool := decide (lo ≤ v) && decide (v ≤ hi)
/-- the row is one that can be walked: n stalls, at most ten, each at a socket or none; no bound is below 0 -/
def zW (Z : Nat → Int32) (n : Nat) : Prop := n ≤ 10 ∧ Z 4 = nI n ∧ (∀ k, k < n → (Z (39 + 8 * k + 4) = -1 ∨ ∃ q, q < 12 ∧ Z (39 + 8 * k + 4) = nI q)) ∧ ∀ b, b < 4 → 0 ≤ Z (7 + 5 * b + 0)
theorem zW_upd {Z : Nat → Int32} {n i : Nat} {x : Int32} (h : zW Z n) (h4 : i ≠ 4) (ha : ∀ k, k < n → i ≠ 39 + 8 * k + 4) (hbd : ∀ b, b < 4 → i ≠ 7 + 5 * b + 0) : zW (upd Z i x) n := by
  refine ⟨h.1, by rw [upd, if_neg (Ne.symm h4)]; exact h.2.1, fun k hk => ?_, fun b hb => ?_⟩
  · rw [upd, if_neg (Ne.symm (ha k hk))]
    exact h.2.2.1 k hk
  · rw [upd, if_neg (Ne.symm (hbd b hb))]
    exact h.2.2.2 b hb
/-- the socket of a stall that is at one -/
def skt (Z : Nat → Int32) (k : Nat) : Nat := (Z (39 + 8 * k + 4)).toNatClampNeg
theorem skt_lt {Z : Nat → Int32} {n k : Nat} (h : zW Z n) (hk : k < n) (h1 : ¬ Z (39 + 8 * k + 4) = -1) : skt Z k < 12 := by
  rcases h.2.2.1 k hk with h2 | ⟨q, hq, h2⟩
  · exact absurd h2 h1
  · unfold skt; rw [h2, nI_clamp (by omega)]; exact hq
theorem skt_eq {Z : Nat → Int32} {n k : Nat} (h : zW Z n) (hk : k < n) (h1 : ¬ Z (39 + 8 * k + 4) = -1) : Z (39 + 8 * k + 4) = nI (skt Z k) := by
  rcases h.2.2.1 k hk with h2 | ⟨q, hq, h2⟩
  · exact absurd h2 h1
  · unfold skt; rw [h2, nI_clamp (by omega)]
/-- the breaker of a socket -/
def brk (Z : Nat → Int32) (q : Nat) : Nat := if Z (27 + q) = nI 1 then 3 else q / 3
theorem brk_lt {Z : Nat → Int32} {q : Nat} (h : q < 12) : brk Z q < 4 := by
  unfold brk; split <;> omega
def hrD (Z : Nat → Int32) : Int32 := Z 3 - Z 3 / (nI 24) * (nI 24)
def wantB (Z : Nat → Int32) (k : Nat) : Bool := if Z (39 + 8 * k + 1) ≤ Z (39 + 8 * k + 2) then decide (Z (39 + 8 * k + 1) ≤ hrD Z) && decide (hrD Z ≤ Z (39 + 8 * k + 2)) else decide (Z (39 + 8 * k + 1) ≤ hrD Z) || decide (hrD Z ≤ Z (39 + 8 * k + 2))
def rsn (Z : Nat → Int32) (k : Nat) : Nat := if wantB Z k = false then 1 else if Z (39 + 8 * k + 4) = -1 then 2 else if Z (7 + 5 * brk Z (skt Z k) + 1) = 0 then 3 else if Z (39 + 8 * k + 5) = nI 1 then 4 else 0
theorem rsn_lt {Z : Nat → Int32} {k : Nat} : rsn Z k < 5 := by unfold rsn; repeat' split <;> first | omega | skip
def onB (Z : Nat → Int32) (k b : Nat) : Bool := if Z (39 + 8 * k + 4) = -1 then false else decide (brk Z (skt Z k) = b)
def drwB (Z : Nat → Int32) (k b : Nat) : Bool := onB Z k b && decide (rsn Z k = 0)
def carS (Z : Nat → Int32) (b : Nat) : Nat → Int32
  | 0 => 0
  | i + 1 => carS Z b i + (if drwB Z i b = true then Z (39 + 8 * i + 0) else 0)
def gofB (Z : Nat → Int32) (k j : Nat) : Bool := decide (Z (39 + 8 * j + 3) < Z (39 + 8 * k + 3)) || (decide (Z (39 + 8 * k + 3) = Z (39 + 8 * j + 3)) && decide (Z (39 + 8 * j + 0) < Z (39 + 8 * k + 0)))
