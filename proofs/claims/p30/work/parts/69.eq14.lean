/-! CLASS AND REFERENCE: looks, the digest -/
theorem drA_b {Z : Nat → Int32} {n : Nat} (hw : zW Z n) (hb : bW Z n) : ∀ i, i ≤ n → drS Z 0 i + drS Z 1 i + drS Z 2 i + drS Z 3 i = drA Z i
  | 0, _ => by rfl
  | i + 1, hi => by
    have ih := drA_b hw hb i (by omega)
    have h10 := hw.1
    have hd : ∀ c, c < 4 → (srcV Z i = nI c ↔ drwB Z i c = true) := fun c hc => srcV_iff hw hb (by omega) hc
    show (drS Z 0 i + (if drwB Z i 0 = true then nI 1 else nI 0)) + (drS Z 1 i + (if drwB Z i 1 = true then nI 1 else nI 0)) + (drS Z 2 i + (if drwB Z i 2 = true then nI 1 else nI 0)) + (drS Z 3 i + (if drwB Z i 3 = true then nI 1 else nI 0)) = drA Z i + (if rsn Z i = 0 then nI 1 else nI 0)
    rw [← ih]
    have ac : ∀ a b c d e f g h : Int32, (a + e) + (b + f) + (c + g) + (d + h) = (a + b + c + d) + (e + f + g + h) := by intros; ac_rfl
    rw [ac]
    congr 1
    by_cases c : rsn Z i = 0
    · have hq := brk_lt (Z := Z) (skt_lt hw (show i < n by omega) (rsn0_at c))
      have e : srcV Z i = nI (brk Z (skt Z i)) := if_pos c
      have h2 : ∀ c, c < 4 → (drwB Z i c = true ↔ c = brk Z (skt Z i)) := fun c hc => by
        rw [← hd c hc, e]
        exact ⟨fun q => (nI_j (by omega) (by omega) q).symm, fun q => by rw [q]⟩
      rw [if_pos c]
      generalize brk Z (skt Z i) = b at hq h2
      rcases (show b = 0 ∨ b = 1 ∨ b = 2 ∨ b = 3 by omega) with rfl | rfl | rfl | rfl
      · rw [if_pos ((h2 0 (by omega)).mpr rfl), if_neg (fun q => absurd ((h2 1 (by omega)).mp q) (by omega)), if_neg (fun q => absurd ((h2 2 (by omega)).mp q) (by omega)), if_neg (fun q => absurd ((h2 3 (by omega)).mp q) (by omega))]; decide
      · rw [if_neg (fun q => absurd ((h2 0 (by omega)).mp q) (by omega)), if_pos ((h2 1 (by omega)).mpr rfl), if_neg (fun q => absurd ((h2 2 (by omega)).mp q) (by omega)), if_neg (fun q => absurd ((h2 3 (by omega)).mp q) (by omega))]; decide
      · rw [if_neg (fun q => absurd ((h2 0 (by omega)).mp q) (by omega)), if_neg (fun q => absurd ((h2 1 (by omega)).mp q) (by omega)), if_pos ((h2 2 (by omega)).mpr rfl), if_neg (fun q => absurd ((h2 3 (by omega)).mp q) (by omega))]; decide
      · rw [if_neg (fun q => absurd ((h2 0 (by omega)).mp q) (by omega)), if_neg (fun q => absurd ((h2 1 (by omega)).mp q) (by omega)), if_neg (fun q => absurd ((h2 2 (by omega)).mp q) (by omega)), if_pos ((h2 3 (by omega)).mpr rfl)]; decide
    · have h2 : ∀ c, ¬ drwB Z i c = true := fun b q => c (by unfold drwB at q; rw [Bool.and_eq_true, decide_eq_true_eq] at q; exact q.2)
      rw [if_neg c, if_neg (h2 0), if_neg (h2 1), if_neg (h2 2), if_neg (h2 3)]; decide
theorem dra_eq {M Z : Nat → Int32} {n : Nat} (h : eqZ M Z n) (hO : oI Z n) : nI (cDra M n 4) = drA Z n := by
  have hw := oI_zW hO
  have hb := oI_bW hO
  have e : ∀ b, b < 4 → nI (cDrw M (nI b) n) = drS Z b n := fun b hb4 => drs_eq h hw hb hb4 n (Nat.le_refl n)
  rw [← drA_b hw hb n (Nat.le_refl n), ← e 0 (by omega), ← e 1 (by omega), ← e 2 (by omega), ← e 3 (by omega), nI_add, nI_add, nI_add]
  show nI (0 + cDrw M (nI 0) n + cDrw M (nI 1) n + cDrw M (nI 2) n + cDrw M (nI 3) n) = _
  rw [Nat.zero_add]
theorem ons_eq {M Z : Nat → Int32} {n : Nat} (h : eqZ M Z n) (hb : bW Z n) : ∀ i, i ≤ 4 → nI (cOns M i) = sumB Z 1 i
  | 0, _ => nI_0
  | i + 1, hi => by
    unfold cOns sumB
    rw [← ons_eq h hb i (by omega), h _ (show 7 + 5 * i + 1 < 39 + 8 * n by omega)]
    rcases hb.2.1 i (by omega) with q | q
    · rw [q, if_pos rfl, Int32.add_zero]; rfl
    · rw [q, if_neg (by decide), ← nI_add]; rfl
theorem cnt_eq {M Z : Nat → Int32} {n sz w : Nat} (h : eqZ M Z n) (hO : oI Z n) (hw : w < 12) : cCnt M n sz w = cntD Z (nI sz) n w := by
  unfold cCnt cntD
  rw [h 3 (by omega), h 5 (by omega), (h 4 (by omega)).symm.trans (oI_mW (oI_eq hO h)).1, plg_eq h n (Nat.le_refl n), dra_eq h hO, ons_eq h (oI_bW hO) 4 (Nat.le_refl 4), ss_eq h (show 6 < 8 by omega) n (Nat.le_refl n), ss_eq h (show 7 < 8 by omega) n (Nat.le_refl n), sb_eq h (show 4 < 5 by omega) 4 (Nat.le_refl 4), sb_eq h (show 3 < 5 by omega) 4 (Nat.le_refl 4), fees_eq h n (Nat.le_refl n)]
theorem sto_eq {M Z : Nat → Int32} {n k w : Nat} (h : eqZ M Z n) (hO : oI Z n) (hk : k < n) (hw : w < 10) : cSto M k w = tldS Z k w := by
  unfold cSto tldS
  by_cases c : w < 8
  · rw [if_pos c, if_pos c, h _ (by omega)]
  · rw [if_neg c, if_neg c, rsn_eq h (oI_zW hO) (oI_bW hO) hk, fee_eq h hk]
theorem bre_eq {M Z : Nat → Int32} {n b w : Nat} (h : eqZ M Z n) (hO : oI Z n) (hb : b < 4) (hw : w < 7) : cBre M n b w = tldB Z b n w := by
  unfold cBre tldB
  rw [lod_eq h (oI_zW hO) (oI_bW hO) hb n (Nat.le_refl n), lpl_eq h (oI_zW hO) (oI_bW hO) hb n (Nat.le_refl n)]
  by_cases c3 : w = 3
  · rw [if_pos c3, if_pos c3]
  · rw [if_neg c3, if_neg c3]
    by_cases c4 : w = 4
    · rw [if_pos c4, if_pos c4]
    · rw [if_neg c4, if_neg c4]
      by_cases c : w < 3
      · rw [if_pos c, if_pos c, h _ (by omega)]
      · rw [if_neg c, if_neg c, h _ (by omega)]
