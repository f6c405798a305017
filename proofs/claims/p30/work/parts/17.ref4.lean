/-! THE REFERENCE: looks, trials -/
def wpY (Z : Nat → Int32) (a q : Nat) : Nat → Int32 := upd Z (39 + 8 * a + 4) (nI q)
theorem wpY_zW {Z : Nat → Int32} {n a q : Nat} (h : zW Z n) (ha : a < n) (hq : q < 12) : zW (wpY Z a q) n := by
  have h10 := h.1
  refine ⟨h.1, ?_, fun k hk => ?_, fun b hb => ?_⟩
  · unfold wpY; rw [upd_n (by omega)]; exact h.2.1
  · unfold wpY
    by_cases e : k = a
    · subst e; rw [upd_s]; exact Or.inr ⟨q, hq, rfl⟩
    · rw [upd_n (by omega)]; exact h.2.2.1 k hk
  · unfold wpY; rw [upd_n (by omega)]; exact h.2.2.2 b hb
def wpR (Z : Nat → Int32) (n a q tm w : Nat) : Int32 := if tknB Z n a (nI q) = true then -1 else if w = 0 then hsT (wpY Z a q) n tm else if w = 1 then sumS (hsZ (wpY Z a q) n tm) 7 n - sumS Z 7 n else hsZ (wpY Z a q) n tm (39 + 8 * a + 6) - Z (39 + 8 * a + 6)
def htF (Z : Nat → Int32) (n b : Nat) : Nat → Nat → Int32
  | 0, _ => -1
  | f + 1, i => if i ≤ 96 then (if hsZ Z n i (7 + 5 * b + 1) = nI 1 then htF Z n b f (i + 1) else nI i) else -1
def bfS (Z : Nat → Int32) (n a : Nat) : Nat → Int32 × Int32 × Int32
  | 0 => (-1, nI 0, nI 0)
  | i + 1 => if tknB Z n a (nI i) = true then bfS Z n a i else if (bfS Z n a i).1 = -1 ∨ wpR Z n a i 24 1 < (bfS Z n a i).2.1 ∨ (wpR Z n a i 24 1 = (bfS Z n a i).2.1 ∧ wpR Z n a i 24 0 < (bfS Z n a i).2.2) then (nI i, wpR Z n a i 24 1, wpR Z n a i 24 0) else bfS Z n a i
def pon (Z : Nat → Int32) (b : Nat) : Nat → Int32 := upd (upd Z (7 + 5 * b + 1) (nI 1)) (7 + 5 * b + 2) (nI 0)
theorem pon_zW {Z : Nat → Int32} {n b : Nat} (h : zW Z n) (hb : b < 4) : zW (pon Z b) n := zW_upd (zW_upd h (by omega) (fun _ _ => by omega) (fun _ _ => by omega)) (by omega) (fun _ _ => by omega) (fun _ _ => by omega)
theorem bnd_zW {Z : Nat → Int32} {n b v : Nat} (h : zW Z n) (hb : b < 4) (hv : v < 2147483648) : zW (upd Z (7 + 5 * b + 0) (nI v)) n := by
  have h10 := h.1
  refine ⟨h.1, ?_, fun k hk => ?_, fun c hc => ?_⟩
  · rw [upd_n (by omega)]; exact h.2.1
  · rw [upd_n (by omega)]; exact h.2.2.1 k hk
  · by_cases e : c = b
    · subst e; rw [upd_s]; exact nI_pos' hv
    · rw [upd_n (by omega)]; exact h.2.2.2 c hc
def lsY (Z : Nat → Int32) (b v : Nat) : Nat → Int32 := pon (upd Z (7 + 5 * b + 0) (nI v)) b
theorem lsY_zW {Z : Nat → Int32} {n b v : Nat} (h : zW Z n) (hb : b < 4) (hv : v < 2147483648) : zW (lsY Z b v) n := pon_zW (bnd_zW h hb hv) hb
def lwF (Y : Nat → Int32) (n b : Nat) : Nat → Nat → Bool
  | 0, i => decide (hsZ Y n i (7 + 5 * b + 1) = nI 1)
  | f + 1, i => if i < 48 then (if hsZ Y n i (7 + 5 * b + 1) = nI 1 then lwF Y n b f (i + 1) else false) else decide (hsZ Y n i (7 + 5 * b + 1) = nI 1)
def lsF (Z : Nat → Int32) (n b : Nat) : Nat → Nat → Int32
  | 0, _ => -1
  | f + 1, v => if v ≤ 999 then (if lwF (lsY Z b v) n b 49 0 = true then nI v else lsF Z n b f (v + 1)) else -1
