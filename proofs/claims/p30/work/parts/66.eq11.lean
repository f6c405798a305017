/-! CLASS AND REFERENCE: the best socket -/
def msk (t0 t1 t2 t3 : Bool) : Int32 := nI ((if t0 = true then 1 else 0) + (if t1 = true then 2 else 0) + (if t2 = true then 4 else 0) + (if t3 = true then 8 else 0))
def bsl (t0 t1 t2 t3 : Bool) (b : Nat) : Bool := if b = 0 then t0 else if b = 1 then t1 else if b = 2 then t2 else t3
theorem msk_and (t0 t1 t2 t3 : Bool) {b : Nat} (hb : b < 4) : (msk t0 t1 t2 t3 &&& (nI 1 <<< (nI b &&& 31)) = 0) ↔ bsl t0 t1 t2 t3 b = false := by
  rcases (show b = 0 ∨ b = 1 ∨ b = 2 ∨ b = 3 by omega) with rfl | rfl | rfl | rfl <;> revert t0 t1 t2 t3 <;> decide +kernel
theorem msk_or (t0 t1 t2 t3 : Bool) {b : Nat} (hb : b < 4) : msk t0 t1 t2 t3 ||| (nI 1 <<< (nI b &&& 31)) = msk (t0 || decide (b = 0)) (t1 || decide (b = 1)) (t2 || decide (b = 2)) (t3 || decide (b = 3)) := by
  rcases (show b = 0 ∨ b = 1 ∨ b = 2 ∨ b = 3 by omega) with rfl | rfl | rfl | rfl <;> revert t0 t1 t2 t3 <;> decide +kernel
/-- the breakers of the sockets that were tried -/
def trd (Z : Nat → Int32) (n a : Nat) : Nat → Nat → Bool
  | 0, _ => false
  | i + 1, b => trd Z n a i b || (!tknB Z n a (nI i) && decide (brk Z i = b))
theorem trd_ex {Z : Nat → Int32} {n a b : Nat} : ∀ i, trd Z n a i b = true → ∃ s, s < i ∧ tknB Z n a (nI s) = false ∧ brk Z s = b
  | 0, h => absurd h Bool.false_ne_true
  | i + 1, h => by
    have h' : (trd Z n a i b || (!tknB Z n a (nI i) && decide (brk Z i = b))) = true := h
    rw [Bool.or_eq_true, Bool.and_eq_true, decide_eq_true_eq] at h'
    rcases h' with q | ⟨q1, q2⟩
    · obtain ⟨s, s1, s2⟩ := trd_ex i q
      exact ⟨s, by omega, s2⟩
    · exact ⟨i, by omega, by simpa using q1, q2⟩
theorem trd_sl {Z : Nat → Int32} {n a i b : Nat} (hb : b < 4) : bsl (trd Z n a i 0) (trd Z n a i 1) (trd Z n a i 2) (trd Z n a i 3) b = trd Z n a i b := by
  rcases (show b = 0 ∨ b = 1 ∨ b = 2 ∨ b = 3 by omega) with rfl | rfl | rfl | rfl <;> rfl
theorem trd_tk {Z : Nat → Int32} {n a i b : Nat} (h : tknB Z n a (nI i) = true) : trd Z n a (i + 1) b = trd Z n a i b := by
  show (trd Z n a i b || (!tknB Z n a (nI i) && decide (brk Z i = b))) = _
  rw [h, Bool.not_true, Bool.false_and, Bool.or_false]
theorem trd_nt {Z : Nat → Int32} {n a i b : Nat} (h : tknB Z n a (nI i) = false) : trd Z n a (i + 1) b = (trd Z n a i b || decide (brk Z i = b)) := by
  show (trd Z n a i b || (!tknB Z n a (nI i) && decide (brk Z i = b))) = _
  rw [h, Bool.not_false, Bool.true_and]
def bD (Z : Nat → Int32) (n a i : Nat) : Int32 := sumS (hsZ (wpY Z a i) n 24) 7 n
def bT (Z : Nat → Int32) (n a i : Nat) : Int32 := sumB (hsZ (wpY Z a i) n 24) 3 4
theorem sb_lt {a b c : Nat} (ha : a < 1000000) (hb : b < 1000000) (hc : c < 1000000) : nI a - nI c < nI b - nI c ↔ a < b := by
  rw [Int32.lt_iff_toInt_lt, Int32.toInt_sub, Int32.toInt_sub, nI_toInt (by omega), nI_toInt (by omega), nI_toInt (by omega)]
  rw [Int.bmod_eq_of_le (by omega) (by omega), Int.bmod_eq_of_le (by omega) (by omega)]
  omega
theorem sb_eq1 {a b c : Int32} : a - c = b - c ↔ a = b := by
  refine ⟨fun h => ?_, fun h => by rw [h]⟩
  have := congrArg (fun x => x + c) h
  simpa [Int32.sub_add_cancel] using this
/-- better: what both compare -/
def btr (Z : Nat → Int32) (n a i j : Nat) : Prop := iN (bD Z n a i) < iN (bD Z n a j) ∨ (iN (bD Z n a i) = iN (bD Z n a j) ∧ iN (bT Z n a i) < iN (bT Z n a j))
theorem bD_n {Z : Nat → Int32} {n a i h : Nat} (hO : oI Z n) (ho : hOn Z) (hb : bN Z n h) (hh : h ≤ 9999) (ha : a < n) (hi : i < 12) : bD Z n a i = nI (iN (bD Z n a i)) ∧ iN (bD Z n a i) < 1000000 ∧ bT Z n a i = nI (iN (bT Z n a i)) ∧ iN (bT Z n a i) < 1000000 := by
  have h10 := hO.1
  have hY := hs_bN (wpY_oI hO ha hi) (wpY_hOn (n := n) ho) (wpY_bN hb) 24
  obtain ⟨d, d1, d2⟩ := dark_n hY n (Nat.le_refl n)
  obtain ⟨t, t1, t2⟩ := trips_n hY 4 (Nat.le_refl 4)
  have d3 : n * (h + 24) ≤ 10 * 10023 := Nat.mul_le_mul h10 (by omega)
  have e1 := nI_iN (a := d) (by omega) d2
  have e2 := nI_iN (a := t) (by omega) t2
  unfold bD bT
  rw [e1, e2]
  exact ⟨d2, by omega, t2, by omega⟩
theorem bs_inv {Ms : Nat → Nat → Int32} {Z : Nat → Int32} {n k h : Nat} (he : eqZ (Ms 0) Z n) (hO : oI Z n) (ho : hOn Z) (hu : unS Z n) (hb : bN Z n h) (hh : h ≤ 9999) (hk : k < n) : ∀ i, i ≤ 12 →
    (cBs Ms n k i).1 = (bfS Z n k i).1 ∧ (cBs Ms n k i).2.2.2.1 = msk (trd Z n k i 0) (trd Z n k i 1) (trd Z n k i 2) (trd Z n k i 3) ∧ (((bfS Z n k i).1 = -1 ∧ ∀ s, s < i → tknB Z n k (nI s) = true) ∨ (¬ (bfS Z n k i).1 = -1 ∧ ∃ j, j < 12 ∧ (cBs Ms n k i).2.1 = bD Z n k j ∧ (bfS Z n k i).2.1 = bD Z n k j - sumS Z 7 n ∧ (cBs Ms n k i).2.2.1 = bT Z n k j ∧ (bfS Z n k i).2.2 = bT Z n k j - sumB Z 3 4 ∧ ∀ s, s < i → tknB Z n k (nI s) = false → ¬ btr Z n k s j))
  | 0, _ => ⟨rfl, rfl, Or.inl ⟨rfl, fun s hs => absurd hs (Nat.not_lt_zero _)⟩⟩
  | i + 1, hi => by
    have h10 := hO.1
    have hw := oI_zW hO
    obtain ⟨q1, q2, q3⟩ := bs_inv he hO ho hu hb hh hk i (by omega)
    have hi12 : i < 12 := by omega
    have ht := tk_eq (a := k) he hO hu hi12
    have hbk := brk_lt (Z := Z) hi12
    have hbit : cBit (Ms 0) i = nI 1 <<< (nI (brk Z i) &&& 31) := by unfold cBit; rw [brq_eq he (oI_bW hO) hi12]
    have hT : eqZ (cBsT Ms n k i (cBs Ms n k i).2.2.2.2) (hsZ (wpY Z k i) n 24) n := (hs_all (eqZ_upd (cp_eq he)) (wpY_oI hO hk hi12) (wpY_hOn (n := n) ho) 24).1
    have hD : cSs (cBsT Ms n k i (cBs Ms n k i).2.2.2.2) 7 n = bD Z n k i := ss_eq hT (by omega) n (Nat.le_refl n)
    have hTT : cSb (cBsT Ms n k i (cBs Ms n k i).2.2.2.2) 3 4 = bT Z n k i := sb_eq hT (by omega) 4 (Nat.le_refl 4)
    have eC : cBs Ms n k (i + 1) = if cTk (Ms 0) n (nI k) (nI i) = true then cBs Ms n k i else if ¬ (cBs Ms n k i).2.2.2.1 &&& cBit (Ms 0) i = 0 then cBs Ms n k i else
      if (cBs Ms n k i).1 = -1 ∨ cSs (cBsT Ms n k i (cBs Ms n k i).2.2.2.2) 7 n < (cBs Ms n k i).2.1 ∨ (cSs (cBsT Ms n k i (cBs Ms n k i).2.2.2.2) 7 n = (cBs Ms n k i).2.1 ∧ cSb (cBsT Ms n k i (cBs Ms n k i).2.2.2.2) 3 4 < (cBs Ms n k i).2.2.1)
      then (nI i, cSs (cBsT Ms n k i (cBs Ms n k i).2.2.2.2) 7 n, cSb (cBsT Ms n k i (cBs Ms n k i).2.2.2.2) 3 4, (cBs Ms n k i).2.2.2.1 ||| cBit (Ms 0) i, cBsT Ms n k i (cBs Ms n k i).2.2.2.2)
      else ((cBs Ms n k i).1, (cBs Ms n k i).2.1, (cBs Ms n k i).2.2.1, (cBs Ms n k i).2.2.2.1 ||| cBit (Ms 0) i, cBsT Ms n k i (cBs Ms n k i).2.2.2.2) := rfl
    have eR : bfS Z n k (i + 1) = if tknB Z n k (nI i) = true then bfS Z n k i else if (bfS Z n k i).1 = -1 ∨ wpR Z n k i 24 1 < (bfS Z n k i).2.1 ∨ (wpR Z n k i 24 1 = (bfS Z n k i).2.1 ∧ wpR Z n k i 24 0 < (bfS Z n k i).2.2) then (nI i, wpR Z n k i 24 1, wpR Z n k i 24 0) else bfS Z n k i := rfl
    rw [hD, hTT, ht, hbit] at eC
    generalize cBsT Ms n k i (cBs Ms n k i).2.2.2.2 = T at eC
    rw [eC, eR]
    clear eC eR hT hD hTT hbit ht
    generalize cBs Ms n k i = C at q1 q2 q3 ⊢
    generalize bfS Z n k i = R at q1 q3 ⊢
    obtain ⟨c1, c2, c3, c4, c5⟩ := C
    obtain ⟨r1, r2, r3⟩ := R
    simp only at q1 q2 q3 ⊢
    subst q1
    subst q2
    by_cases tk : tknB Z n k (nI i) = true
    · rw [if_pos tk, if_pos tk, trd_tk tk, trd_tk tk, trd_tk tk, trd_tk tk]
      refine ⟨rfl, rfl, ?_⟩
      rcases q3 with ⟨a1, a2⟩ | ⟨a1, j, j1, j2, j3, j4, j5, j6⟩
      · exact Or.inl ⟨a1, fun s hs => by
          by_cases e : s = i
          · subst e; exact tk
          · exact a2 s (by omega)⟩
      · exact Or.inr ⟨a1, j, j1, j2, j3, j4, j5, fun s hs hf => by
          by_cases e : s = i
          · subst e; rw [tk] at hf; exact absurd hf.symm Bool.false_ne_true
          · exact j6 s (by omega) hf⟩
    · have tf : tknB Z n k (nI i) = false := by simpa using tk
      have w1 : wpR Z n k i 24 1 = bD Z n k i - sumS Z 7 n := by unfold wpR; rw [if_neg tk, if_neg (by omega), if_pos rfl]; rfl
      have w0 : wpR Z n k i 24 0 = bT Z n k i - sumB Z 3 4 := by
        unfold wpR; rw [if_neg tk, if_pos rfl]
        unfold bT
        rw [wpY_sum hO hk hi12, sub_l]
      obtain ⟨i1, i2, i3, i4⟩ := bD_n hO ho hb hh hk hi12
      obtain ⟨z1, z2, z3⟩ := dark_n hb n (Nat.le_refl n)
      obtain ⟨y1, y2, y3⟩ := trips_n hb 4 (Nat.le_refl 4)
      have z4 : n * h ≤ 10 * 9999 := Nat.mul_le_mul h10 hh
      rw [if_neg tk, if_neg tk, w1, w0, trd_nt tf, trd_nt tf, trd_nt tf, trd_nt tf]
      have key : ∀ j, j < 12 → ((bD Z n k i - sumS Z 7 n < bD Z n k j - sumS Z 7 n ∨ (bD Z n k i - sumS Z 7 n = bD Z n k j - sumS Z 7 n ∧ bT Z n k i - sumB Z 3 4 < bT Z n k j - sumB Z 3 4)) ↔ btr Z n k i j) ∧ ((bD Z n k i < bD Z n k j ∨ (bD Z n k i = bD Z n k j ∧ bT Z n k i < bT Z n k j)) ↔ btr Z n k i j) := fun j hj => by
        obtain ⟨p1, p2, p3, p4⟩ := bD_n hO ho hb hh hk hj
        have e0 : bD Z n k i = bD Z n k j ↔ iN (bD Z n k i) = iN (bD Z n k j) := ⟨fun q => by rw [q], fun q => by rw [i1, p1, q]⟩
        have e1 : bD Z n k i < bD Z n k j ↔ iN (bD Z n k i) < iN (bD Z n k j) := by
          have := nI_ltI (a := iN (bD Z n k i)) (b := iN (bD Z n k j)) (by omega) (by omega)
          rwa [← i1, ← p1] at this
        have e2 : bT Z n k i < bT Z n k j ↔ iN (bT Z n k i) < iN (bT Z n k j) := by
          have := nI_ltI (a := iN (bT Z n k i)) (b := iN (bT Z n k j)) (by omega) (by omega)
          rwa [← i3, ← p3] at this
        have e3 : bD Z n k i - sumS Z 7 n < bD Z n k j - sumS Z 7 n ↔ iN (bD Z n k i) < iN (bD Z n k j) := by
          have := sb_lt (a := iN (bD Z n k i)) (b := iN (bD Z n k j)) (c := z1) (by omega) (by omega) (by omega)
          rwa [← i1, ← p1, ← z3] at this
        have e4 : bT Z n k i - sumB Z 3 4 < bT Z n k j - sumB Z 3 4 ↔ iN (bT Z n k i) < iN (bT Z n k j) := by
          have := sb_lt (a := iN (bT Z n k i)) (b := iN (bT Z n k j)) (c := y1) (by omega) (by omega) (by omega)
          rwa [← i3, ← p3, ← y3] at this
        unfold btr
        rw [e3, e4, sb_eq1, e0, e1, e2]
        exact ⟨Iff.rfl, Iff.rfl⟩
      by_cases sl : trd Z n k i (brk Z i) = true
      · -- its breaker was tried
        obtain ⟨s, s1, s2, s3⟩ := trd_ex i sl
        have hm : ¬ (msk (trd Z n k i 0) (trd Z n k i 1) (trd Z n k i 2) (trd Z n k i 3) &&& (nI 1 <<< (nI (brk Z i) &&& 31)) = 0) := fun q => by
          have := (msk_and _ _ _ _ hbk).mp q
          rw [trd_sl hbk, sl] at this
          exact absurd this.symm Bool.false_ne_true
        rw [if_pos hm]
        have same := wp_same (tm := 24) hw hk hi12 (show s < 12 by omega) s3.symm
        have sD : bD Z n k i = bD Z n k s := same.1
        have sT : bT Z n k i = bT Z n k s := by unfold bT; rw [wpY_sum hO hk hi12, wpY_sum hO hk (show s < 12 by omega), same.2]
        have hor : ∀ b, (trd Z n k i b || decide (brk Z i = b)) = trd Z n k i b := fun b => by
          by_cases e : brk Z i = b
          · rw [← e, sl]; rfl
          · rw [decide_eq_false e, Bool.or_false]
        rw [hor, hor, hor, hor]
        rcases q3 with ⟨a1, a2⟩ | ⟨a1, j, j1, j2, j3, j4, j5, j6⟩
        · rw [a2 s s1] at s2; exact absurd s2.symm Bool.false_ne_true
        · have nb : ¬ btr Z n k i j := by
            have := j6 s s1 s2
            unfold btr at this ⊢
            rw [sD, sT]; exact this
          have hne : ¬ (c1 = -1 ∨ bD Z n k i - sumS Z 7 n < r2 ∨ (bD Z n k i - sumS Z 7 n = r2 ∧ bT Z n k i - sumB Z 3 4 < r3)) := by
            rintro (q | q)
            · exact a1 q
            · rw [j3, j5] at q; exact nb ((key j j1).1.mp q)
          rw [if_neg hne]
          exact ⟨rfl, rfl, Or.inr ⟨a1, j, j1, j2, j3, j4, j5, fun s hs hf => by
            by_cases e : s = i
            · subst e; exact nb
            · exact j6 s (by omega) hf⟩⟩
      · have sf : trd Z n k i (brk Z i) = false := by simpa using sl
        have hm : msk (trd Z n k i 0) (trd Z n k i 1) (trd Z n k i 2) (trd Z n k i 3) &&& (nI 1 <<< (nI (brk Z i) &&& 31)) = 0 := (msk_and _ _ _ _ hbk).mpr (by rw [trd_sl hbk, sf])
        rw [if_neg (fun q => q hm), msk_or _ _ _ _ hbk]
        have self : ¬ btr Z n k i i := by unfold btr; omega
        rcases q3 with ⟨a1, a2⟩ | ⟨a1, j, j1, j2, j3, j4, j5, j6⟩
        · rw [if_pos (Or.inl a1), if_pos (Or.inl a1)]
          refine ⟨rfl, rfl, Or.inr ⟨nI_nm1 (by omega), i, hi12, rfl, rfl, rfl, rfl, fun s hs hf => ?_⟩⟩
          by_cases e : s = i
          · subst e; exact self
          · rw [a2 s (by omega)] at hf; exact absurd hf.symm Bool.false_ne_true
        · rw [j2, j3, j4, j5]
          by_cases nb : btr Z n k i j
          · rw [if_pos (Or.inr ((key j j1).2.mpr nb)), if_pos (Or.inr ((key j j1).1.mpr nb))]
            refine ⟨rfl, rfl, Or.inr ⟨nI_nm1 (by omega), i, hi12, rfl, rfl, rfl, rfl, fun s hs hf => ?_⟩⟩
            by_cases e : s = i
            · subst e; exact self
            · have := j6 s (by omega) hf
              unfold btr at this nb ⊢
              omega
          · rw [if_neg (by rintro (q | q); exact a1 q; exact nb ((key j j1).2.mp q)), if_neg (by rintro (q | q); exact a1 q; exact nb ((key j j1).1.mp q))]
            refine ⟨rfl, rfl, Or.inr ⟨a1, j, j1, rfl, rfl, rfl, rfl, fun s hs hf => ?_⟩⟩
            by_cases e : s = i
            · subst e; exact nb
            · exact j6 s (by omega) hf
theorem bs_eq {Ms : Nat → Nat → Int32} {Z : Nat → Int32} {n k h : Nat} (he : eqZ (Ms 0) Z n) (hO : oI Z n) (ho : hOn Z) (hu : unS Z n) (hb : bN Z n h) (hh : h ≤ 9999) (hk : k < n) : (cBs Ms n k 12).1 = (bfS Z n k 12).1 := (bs_inv he hO ho hu hb hh hk 12 (Nat.le_refl 12)).1

