/-! CLASS AND REFERENCE: looks, the digest -/
theorem drA_b {Z : Nat → Int32} {n : Nat} (hw : zW Z n) (hb : bW Z n) : ∀ i, i ≤ n → drS Z 0 i + drS Z 1 i + drS Z 2 i + drS Z 3 i = drA Z i
  | 0, _ => by rfl
  | i + 1, hi => by
    have ih := drA_b hw hb i (by omega)
    have h10 := hw.1
    have hd : ∀ c, c < 4 → (srcV Z i = nI c ↔ drwB Z i c = true) := fun c hc => srcV_iff hw hb (by omega) hc
    show (drS Z 0 i + (if drwB Z i 0 = true then nI 1 else nI 0)) + (drS Z 1 i + (if drwB Z i 1 = true then nI 1 else nI 0)) + (drS Z 2 i + (if drwB Z i 2 = true then nI 1 else nI 0)) + (drS Z 3 i + (if drwB Z i 3 = true then nI 1 else nI 0)) = drA Z i + (if rsn Z i = 0 then nI 1 else nI 0)
    rw [← ih]
    have ac : ∀ a b c d e f g h : Int32, (a + e) + (b + f) + (c + g) + (d + h) = (a + b + c + d) + (e + f + g + h) := by intros; ac_rfl
    rw [ac]
    congr 1
    by_cases c : rsn Z i = 0
    · have hq := brk_lt (Z := Z) (skt_lt hw (show i < n by omega) (rsn0_at c))
      have e : srcV Z i = nI (brk Z (skt Z i)) := if_pos c
      have h2 : ∀ c, c < 4 → (drwB Z i c = true ↔ c = brk Z (skt Z i)) := fun c hc => by
        rw [← hd c hc, e]
        exact ⟨fun q => (nI_j (by omega) (by omega) q).symm, fun q => by rw [q]⟩
      rw [if_pos c]
      generalize brk Z (skt Z i) = b at hq h2
      rcases (show b = 0 ∨ b = 1 ∨ b = 2 ∨ b = 3 by omega) with rfl | rfl | rfl | rfl
      · rw [if_pos ((h2 0 (by omega)).mpr rfl), if_neg (fun q => absurd ((h2 1 (by omega)).mp q) (by omega)), if_neg (fun q => absurd ((h2 2 (by omega)).mp q) (by omega)), if_neg (fun q => absurd ((h2 3 (by omega)).mp q) (by omega))]; decide
      · rw [if_neg (fun q => absurd ((h2 0 (by omega)).mp q) (by omega)), if_pos ((h2 1 (by omega)).mpr rfl), if_neg (fun q => absurd ((h2 2 (by omega)).mp q) (by omega)), if_neg (fun q => absurd ((h2 3 (by omega)).mp q) (by omega))]; decide
      · rw [if_neg (fun q => absurd ((h2 0 (by omega)).mp q) (by omega)), if_neg (fun q => absurd ((h2 1 (by omega)).mp q) (by omega)), if_pos ((h2 2 (by omega)).mpr rfl), if_neg (fun q => absurd ((h2 3 (by omega)).mp q) (by omega))]; decide
      · rw [if_neg (fun q => absurd ((h2 0 (by omega)).mp q) (by omega)), if_neg (fun q => absurd ((h2 1 (by omega)).mp q) (by omega)), if_neg (fun q => absurd ((h2 2 (by omega)).mp q) (by omega)), if_pos ((h2 3 (by omega)).mpr rfl)]; decide
    · have h2 : ∀ c, ¬ drwB Z i c = true := fun b q => c (by unfold drwB at q; rw [Bool.and_eq_true, decide_eq_true_eq] at q; exact q.2)
      rw [if_neg c, if_neg (h2 0), if_neg (h2 1), if_neg (h2 2), if_neg (h2 3)]; decide
theorem dra_eq {M Z : Nat → Int32} {n : Nat} (h : eqZ M Z n) (hO : oI Z n) : nI (cDra M n 4) = drA Z n := by
  have hw := oI_zW hO
  have hb := oI_bW hO
  have e : ∀ b, b < 4 → nI (cDrw M (nI b) n) = drS Z b n := fun b hb4 => drs_eq h hw hb hb4 n (Nat.le_refl n)
  rw [← drA_b hw hb n (Nat.le_refl n), ← e 0 (by omega), ← e 1 (by omega), ← e 2 (by omega), ← e 3 (by omega), nI_add, nI_add, nI_add]
  show nI (0 + cDrw M (nI 0) n + cDrw M (nI 1) n + cDrw M (nI 2) n + cDrw M (nI 3) n) = _
  rw [Nat.zero_add]
theorem ons_eq {M Z : Nat → Int32} {n : Nat} (h : eqZ M Z n) (hb : bW Z n) : ∀ i, i ≤ 4 → nI (cOns M i) = sumB Z 1 i
  | 0, _ => nI_0
  | i + 1, hi => by
    unfold cOns sumB
    rw [← ons_eq h hb i (by omega), h _ (show 7 + 5 * i + 1 < 39 + 8 * n by omega)]
    rcases hb.2.1 i (by omega) with q | q
    · rw [q, if_pos rfl, Int32.add_zero]; rfl
    · rw [q, if_neg (by decide), ← nI_add]; rfl
theorem cnt_eq {M Z : Nat → Int32} {n sz w : Nat} (h : eqZ M Z n) (hO : oI Z n) (hw : w < 12) : cCnt M n sz w = cntD Z (nI sz) n w := by
  unfold cCnt cntD
  rw [h 3 (by omega), h 5 (by omega), (h 4 (by omega)).symm.trans (oI_mW (oI_eq hO h)).1, plg_eq h n (Nat.le_refl n), dra_eq h hO, ons_eq h (oI_bW hO) 4 (Nat.le_refl 4), ss_eq h (show 6 < 8 by omega) n (Nat.le_refl n), ss_eq h (show 7 < 8 by omega) n (Nat.le_refl n), sb_eq h (show 4 < 5 by omega) 4 (Nat.le_refl 4), sb_eq h (show 3 < 5 by omega) 4 (Nat.le_refl 4), fees_eq h n (Nat.le_refl n)]
theorem sto_eq {M Z : Nat → Int32} {n k w : Nat} (h : eqZ M Z n) (hO : oI Z n) (hk : k < n) (hw : w < 10) : cSto M k w = tldS Z k w := by
  unfold cSto tldS
  by_cases c : w < 8
  · rw [if_pos c, if_pos c, h _ (by omega)]
  · rw [if_neg c, if_neg c, rsn_eq h (oI_zW hO) (oI_bW hO) hk, fee_eq h hk]
theorem bre_eq {M Z : Nat → Int32} {n b w : Nat} (h : eqZ M Z n) (hO : oI Z n) (hb : b < 4) (hw : w < 7) : cBre M n b w = tldB Z b n w := by
  unfold cBre tldB
  rw [lod_eq h (oI_zW hO) (oI_bW hO) hb n (Nat.le_refl n), lpl_eq h (oI_zW hO) (oI_bW hO) hb n (Nat.le_refl n)]
  by_cases c3 : w = 3
  · rw [if_pos c3, if_pos c3]
  · rw [if_neg c3, if_neg c3]
    by_cases c4 : w = 4
    · rw [if_pos c4, if_pos c4]
    · rw [if_neg c4, if_neg c4]
      by_cases c : w < 3
      · rw [if_pos c, if_pos c, h _ (by omega)]
      · rw [if_neg c, if_neg c, h _ (by omega)]
theorem dC_eq {M Z : Nat → Int32} {n sz : Nat} (h : eqZ M Z n) (hO : oI Z n) : ∀ i, i ≤ 12 → dC M n sz i = dgA Z (nI sz) n 3089 i
  | 0, _ => rfl
  | i + 1, hi => by unfold dC dgA; rw [dC_eq h hO i (by omega), cnt_eq h hO (by omega)]
theorem dS_eq {M Z : Nat → Int32} {n : Nat} {t : Int64} (h : eqZ M Z n) : ∀ i, i ≤ 3 → dS M t i = dgB Z t i
  | 0, _ => rfl
  | i + 1, hi => by unfold dS dgB; rw [dS_eq h i (by omega), h _ (by omega)]
theorem dT_eq {M Z : Nat → Int32} {n k : Nat} {t : Int64} (h : eqZ M Z n) (hO : oI Z n) (hk : k < n) : ∀ i, i ≤ 10 → dT M k t i = msA Z k t i
  | 0, _ => rfl
  | i + 1, hi => by unfold dT msA; rw [dT_eq h hO hk i (by omega), sto_eq h hO hk (by omega)]
theorem dI_eq {X : Nat → Nat → Int32} {Z : Nat → Int32} {n k : Nat} {t : Int64} (h : eqZ (X 0) Z n) (hO : oI Z n) (ho : hOn Z) (hu : unS Z n) (hk : k < n) : ∀ i, i ≤ 3 → dI X n k t i = mwA Z n k t i
  | 0, _ => rfl
  | i + 1, hi => by
    unfold dI mwA
    rw [dI_eq h hO ho hu hk i (by omega), if_eq (by rw [xP_0]; exact h) hO ho hu hk (by omega)]
theorem dK_eq {X : Nat → Nat → Int32} {Z : Nat → Int32} {n h9 : Nat} {t : Int64} (h : eqZ (X 0) Z n) (hO : oI Z n) (ho : hOn Z) (hu : unS Z n) (hb : bN Z n h9) (hh : h9 ≤ 9999) : ∀ i, i ≤ n → dK X n t i = dgC Z n t i
  | 0, _ => rfl
  | i + 1, hi => by
    have e0 : eqZ (xS X n i 0) Z n := by rw [xS_0]; exact h
    unfold dK dgC msH
    rw [dK_eq h hO ho hu hb hh i (by omega), dT_eq e0 hO (by omega) 10 (Nat.le_refl 10), dI_eq e0 hO ho hu (by omega) 3 (Nat.le_refl 3), bs_eq (by rw [xP_0]; exact e0) hO ho hu hb hh (by omega)]
theorem dB_eq {M Z : Nat → Int32} {n b : Nat} {t : Int64} (h : eqZ M Z n) (hO : oI Z n) (hb : b < 4) : ∀ i, i ≤ 7 → dB M n b t i = mbA Z n b t i
  | 0, _ => rfl
  | i + 1, hi => by unfold dB mbA; rw [dB_eq h hO hb i (by omega), bre_eq h hO hb (by omega)]
theorem dR_eq {X : Nat → Nat → Int32} {Z : Nat → Int32} {n : Nat} {t : Int64} (h : eqZ (X 0) Z n) (hO : oI Z n) (ho : hOn Z) : ∀ i, i ≤ 4 → dR X n t i = dgD Z n t i
  | 0, _ => rfl
  | i + 1, hi => by
    have e0 : eqZ (xQ X n i 0) Z n := by rw [xQ_0]; exact h
    unfold dR dgD mbH
    rw [dR_eq h hO ho i (by omega), dB_eq e0 hO (by omega) 7 (Nat.le_refl 7), ti_eq (cp_eq e0) hO ho (by omega)]
theorem dQ_eq {M Z : Nat → Int32} {n : Nat} {t : Int64} (h : eqZ M Z n) (hO : oI Z n) (hu : unS Z n) : ∀ i, i ≤ 12 → dQ M n t i = dgE Z n t i
  | 0, _ => rfl
  | i + 1, hi => by
    show mxH (mxH (dQ M n t i) (Int32.toInt64 (if 0 = 0 then cBrk M (nI i) else cAt M (nI i) n 11 0))) (Int32.toInt64 (if 1 = 0 then cBrk M (nI i) else cAt M (nI i) n 11 0)) = mxH (mxH (dgE Z n t i) (Int32.toInt64 (nI (brk Z i)))) (Int32.toInt64 (ox (satN Z (nI i) n)))
    rw [if_pos rfl, if_neg (by omega), dQ_eq h hO hu i (by omega), brq_eq h (oI_bW hO) (by omega), at_eqZ h hO hu (by omega)]
theorem dF_eq {B B2 : Nat → Int32} {t : Int64} : ∀ i, (∀ j, j < i → B j = B2 j) → cMxB B t i = dgF B2 t i
  | 0, _ => rfl
  | i + 1, h => by unfold cMxB dgF; rw [dF_eq i (fun j hj => h j (by omega)), h i (by omega)]
theorem dig_eq {Ms : Nat → Nat → Int32} {Z kp K B B2 : Nat → Int32} {n sz tn h9 : Nat} {d : UInt64} (h : eqZ (Ms 0) Z n) (hO : oI Z n) (ho : hOn Z) (hu : unS Z n) (hb : bN Z n h9) (hh : h9 ≤ 9999) (hK : ∀ i, i < 2 → kp i = K i) (hB : ∀ i, i < tn → B i = B2 i) :
    cMxB B (mxH (dP kp (mxH (mxH (dQ ((xQ (xS Ms n n) n 4) 0) n (dR (xS Ms n n) n (dK Ms n (dS (Ms 0) (dC (Ms 0) n sz 12) 3) n) 4) 12) (Int32.toInt64 (if (cLbR (xQ (xS Ms n n) n 4) n 0).1 = 999 then -1 else nI ((cLbR (xQ (xS Ms n n) n 4) n 0).1 + 1)))) (bitsD d)) 2) (Int32.toInt64 (nI tn))) tn = dgH Z (nI sz) n d K tn B2 := by
  have e1 : eqZ (xS Ms n n 0) Z n := by rw [xS_0]; exact h
  have e2 : eqZ ((xQ (xS Ms n n) n 4) 0) Z n := by rw [xQ_0]; exact e1
  rw [lb_eq e2 hO ho (by omega), dQ_eq e2 hO hu 12 (Nat.le_refl 12), dR_eq e1 hO ho 4 (Nat.le_refl 4), dK_eq h hO ho hu hb hh n (Nat.le_refl n), dS_eq h 3 (Nat.le_refl 3), dC_eq h hO 12 (Nat.le_refl 12)]
  rw [dF_eq tn hB]
  unfold dgH dg3 dg2 dg1
  show dgF B2 (mxH (mxH (mxH (mxH (mxH _ _) _) (kpL (kp 0))) (kpL (kp 1))) _) tn = _
  rw [hK 0 (by omega), hK 1 (by omega)]
