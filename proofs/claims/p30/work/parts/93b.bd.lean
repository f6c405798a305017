/-! THE LAW: how much hours bring; the best socket by trying from above; a breaker's trips -/
theorem tripT_n {W : Nat → Int32} : ∀ i, ∃ c, c ≤ i ∧ tripT W i = nI c
  | 0 => ⟨0, Nat.le_refl 0, rfl⟩
  | i + 1 => by
    obtain ⟨c, h1, h2⟩ := tripT_n (W := W) i
    by_cases q : trC (tripZ W i) i = true
    · exact ⟨c + 1, by omega, (show tripT W (i + 1) = tripT W i + nI 1 from if_pos q).trans (by rw [h2, nI_add])⟩
    · exact ⟨c, by omega, (show tripT W (i + 1) = tripT W i from if_neg q).trans h2⟩
theorem hsT_n {Z : Nat → Int32} {n : Nat} : ∀ i, ∃ c, c ≤ 4 * i ∧ hsT Z n i = nI c
  | 0 => ⟨0, Nat.le_refl 0, rfl⟩
  | i + 1 => by
    obtain ⟨c, h1, h2⟩ := hsT_n (Z := Z) (n := n) i
    obtain ⟨d, k1, k2⟩ := tripT_n (W := hrA (hsZ Z n i) n) 4
    exact ⟨c + d, by omega, (show hsT Z n (i + 1) = hsT Z n i + tripT (hrA (hsZ Z n i) n) 4 from rfl).trans (by rw [h2, k2, nI_add])⟩
theorem met_6k {W : Nat → Int32} {n k : Nat} (hO : oI W n) (hk : k < n) : ∀ i, (i ≤ k → metS W i (39 + 8 * k + 6) = W (39 + 8 * k + 6)) ∧ ∃ c, c ≤ 500 ∧ metS W i (39 + 8 * k + 6) = W (39 + 8 * k + 6) + nI c
  | 0 => ⟨fun _ => rfl, 0, by omega, by rw [nI_0, Int32.add_zero]; rfl⟩
  | i + 1 => by
    obtain ⟨q1, c, q2, q3⟩ := met_6k hO hk i
    by_cases e : i = k
    · subst e
      obtain ⟨a, a1, a2, a3⟩ := oI_load hO hk
      have e0 : metS W i (39 + 8 * i + 0) = nI a := (met_at (by omega) (fun k => ⟨by omega, by omega⟩) i).trans a3
      have e1 : metS W (i + 1) (39 + 8 * i + 6) = metS W i (39 + 8 * i + 6) + (if rsn (metS W i) i = 0 then metS W i (39 + 8 * i + 0) else nI 0) := by
        show meterZ (metS W i) i (39 + 8 * i + 6) = _
        unfold meterZ mt2 mt1
        rw [upd_n (by omega), upd_n (by omega), upd_s]
      refine ⟨fun h => absurd h (by omega), ?_⟩
      rw [e1, q1 (Nat.le_refl i), e0]
      by_cases r0 : rsn (metS W i) i = 0
      · exact ⟨a, a2, by rw [if_pos r0]⟩
      · exact ⟨0, by omega, by rw [if_neg r0]⟩
    · have e1 : metS W (i + 1) (39 + 8 * k + 6) = metS W i (39 + 8 * k + 6) := by
        show meterZ (metS W i) i (39 + 8 * k + 6) = _
        unfold meterZ mt2 mt1
        rw [upd_n (by omega), upd_n (by omega), upd_n (by omega)]
      rw [e1]
      exact ⟨fun h => q1 (by omega), c, q2, q3⟩
theorem hr_67 {Z : Nat → Int32} {n k : Nat} (hO : oI Z n) (ho : hOn Z) (hk : k < n) : (∃ c, c ≤ 500 ∧ hrZ Z n (39 + 8 * k + 6) = Z (39 + 8 * k + 6) + nI c) ∧ ∃ c, c ≤ 1 ∧ hrZ Z n (39 + 8 * k + 7) = Z (39 + 8 * k + 7) + nI c := by
  have hw := oI_zW hO
  have hWO := warm_oI (shdS_oI hO 4) (shdS_hOn hw ho) 4 (Nat.le_refl 4)
  have e : ∀ z, (z = 39 + 8 * k + 6 ∨ z = 39 + 8 * k + 7) → hrZ Z n z = metS (warmS (shdS Z n 4) n 4) n z := fun z hz => by
    unfold hrZ
    rw [upd_n (by rcases hz with h | h <;> omega), trip_at (fun c hc => ⟨by rcases hz with h | h <;> omega, by rcases hz with h | h <;> omega⟩) 4 (Nat.le_refl 4)]
    rfl
  have e2 : ∀ z, (z = 39 + 8 * k + 6 ∨ z = 39 + 8 * k + 7) → warmS (shdS Z n 4) n 4 z = Z z := fun z hz => by
    rw [warm_at (fun c hc => ⟨by rcases hz with h | h <;> omega, by rcases hz with h | h <;> omega⟩) 4 (Nat.le_refl 4)]
    exact shdS_at hw (by rcases hz with h | h <;> omega) (fun j hj => by rcases hz with h | h <;> omega) 4 (Nat.le_refl 4)
  refine ⟨?_, ?_⟩
  · obtain ⟨c, c1, c2⟩ := (met_6k hWO hk n).2
    exact ⟨c, c1, by rw [e _ (Or.inl rfl), c2, e2 _ (Or.inl rfl)]⟩
  · obtain ⟨c, c1, c2⟩ := (met_7 (W := warmS (shdS Z n 4) n 4) (k := k) n).2
    exact ⟨c, c1, by rw [e _ (Or.inr rfl), c2, e2 _ (Or.inr rfl)]⟩
theorem hs_67 {Z : Nat → Int32} {n k : Nat} (hO : oI Z n) (ho : hOn Z) (hk : k < n) : ∀ i, (∃ c, c ≤ 500 * i ∧ hsZ Z n i (39 + 8 * k + 6) = Z (39 + 8 * k + 6) + nI c) ∧ ∃ c, c ≤ i ∧ hsZ Z n i (39 + 8 * k + 7) = Z (39 + 8 * k + 7) + nI c
  | 0 => ⟨⟨0, by omega, by rw [nI_0, Int32.add_zero]; rfl⟩, 0, by omega, by rw [nI_0, Int32.add_zero]; rfl⟩
  | i + 1 => by
    obtain ⟨⟨c, c1, c2⟩, d, d1, d2⟩ := hs_67 hO ho hk i
    obtain ⟨-, k1, k2⟩ := hs_all (M := Z) (fun _ _ => rfl) hO ho i
    obtain ⟨⟨c', c1', c2'⟩, d', d1', d2'⟩ := hr_67 k1 k2 hk
    refine ⟨⟨c + c', by omega, ?_⟩, d + d', by omega, ?_⟩
    · show hrZ (hsZ Z n i) n (39 + 8 * k + 6) = _
      rw [c2', c2, Int32.add_assoc, nI_add]
    · show hrZ (hsZ Z n i) n (39 + 8 * k + 7) = _
      rw [d2', d2, Int32.add_assoc, nI_add]
theorem sub_add4 (a b x z : Int32) : (a - b) + (x - z) = (a + x) - (b + z) := by
  simp only [Int32.sub_eq_add_neg, Int32.neg_add]
  rw [Int32.add_assoc, Int32.add_assoc]
  congr 1
  rw [← Int32.add_assoc, Int32.add_comm (-b) x, Int32.add_assoc]
theorem dk_sum {X Z : Nat → Int32} : ∀ i, dkS X Z i = sumS X 7 i - sumS Z 7 i
  | 0 => show (0 : Int32) = 0 - 0 by decide
  | i + 1 => by
    show dkS X Z i + (X (39 + 8 * i + 7) - Z (39 + 8 * i + 7)) = (sumS X 7 i + X (39 + 8 * i + 7)) - (sumS Z 7 i + Z (39 + 8 * i + 7))
    rw [dk_sum i, sub_add4]
theorem dk_n {X Z : Nat → Int32} {n m : Nat} (h : ∀ k, k < n → ∃ c, c ≤ m ∧ X (39 + 8 * k + 7) = Z (39 + 8 * k + 7) + nI c) : ∀ i, i ≤ n → ∃ d, d ≤ i * m ∧ dkS X Z i = nI d
  | 0, _ => ⟨0, by omega, rfl⟩
  | i + 1, hi => by
    obtain ⟨d, d1, d2⟩ := dk_n h i (by omega)
    obtain ⟨c, c1, c2⟩ := h i (by omega)
    refine ⟨d + c, by rw [Nat.succ_mul]; omega, ?_⟩
    show dkS X Z i + (X (39 + 8 * i + 7) - Z (39 + 8 * i + 7)) = _
    rw [d2, c2, sub_l, nI_add]
/-- what is told of hours at a socket, as numbers -/
theorem told_n {Z : Nat → Int32} {n k q tm : Nat} (hO : oI Z n) (ho : hOn Z) (hk : k < n) (hq : q < 12) (ht : tm ≤ 48) : ∃ m d t, m ≤ 24000 ∧ d ≤ 480 ∧ t ≤ 192 ∧ hsZ (wpY Z k q) n tm (39 + 8 * k + 6) - Z (39 + 8 * k + 6) = nI m ∧ sumS (hsZ (wpY Z k q) n tm) 7 n - sumS Z 7 n = nI d ∧ hsT (wpY Z k q) n tm = nI t ∧ goV Z n k q tm = lN (1000000 * m + 1000 * d + t) := by
  have h10 := hO.1
  have hWO := wpY_oI hO hk hq
  have hWo := wpY_hOn (n := n) (a := k) (q := q) ho
  obtain ⟨m, m1, m2⟩ := (hs_67 hWO hWo hk tm).1
  have em : hsZ (wpY Z k q) n tm (39 + 8 * k + 6) - Z (39 + 8 * k + 6) = nI m := by
    rw [m2, show wpY Z k q (39 + 8 * k + 6) = Z (39 + 8 * k + 6) from upd_n (by omega), sub_l]
  obtain ⟨d, d1, d2⟩ := dk_n (X := hsZ (wpY Z k q) n tm) (Z := Z) (n := n) (m := tm) (fun j hj => by
    obtain ⟨c, c1, c2⟩ := (hs_67 hWO hWo hj tm).2
    exact ⟨c, c1, by rw [c2, show wpY Z k q (39 + 8 * j + 7) = Z (39 + 8 * j + 7) from upd_n (by omega)]⟩) n (Nat.le_refl n)
  obtain ⟨t, t1, t2⟩ := hsT_n (Z := wpY Z k q) (n := n) tm
  have hd : d ≤ 480 := Nat.le_trans d1 (Nat.le_trans (Nat.mul_le_mul h10 ht) (by omega))
  refine ⟨m, d, t, by omega, hd, by omega, em, by rw [← dk_sum]; exact d2, t2, ?_⟩
  unfold goV
  rw [em, d2, t2, nI_l (by omega), nI_l (by omega), nI_l (by omega), show (1000000 : Int64) = lN 1000000 from rfl, show (1000 : Int64) = lN 1000 from rfl, lN_mul, lN_mul, lN_add, lN_add]
theorem wp_at {Z : Nat → Int32} {n k q tm : Nat} (h : tknB Z n k (nI q) = false) : wpR Z n k q tm 0 = hsT (wpY Z k q) n tm ∧ wpR Z n k q tm 1 = sumS (hsZ (wpY Z k q) n tm) 7 n - sumS Z 7 n ∧ wpR Z n k q tm 2 = hsZ (wpY Z k q) n tm (39 + 8 * k + 6) - Z (39 + 8 * k + 6) := by
  have h' : ¬ tknB Z n k (nI q) = true := by rw [h]; decide
  exact ⟨(if_neg h').trans rfl, (if_neg h').trans rfl, (if_neg h').trans rfl⟩
theorem wp_tk {Z : Nat → Int32} {n k q tm w : Nat} (h : tknB Z n k (nI q) = true) : wpR Z n k q tm w = -1 := if_pos h
/-- the three comparisons -/
theorem wb_eq {Z : Nat → Int32} {n k q tm : Nat} (hO : oI Z n) (ho : hOn Z) (hk : k < n) (hq : q < 12) (ht : tm ≤ 48) (htk : tknB Z n k (nI q) = false) : Int32.toInt64 (wpR Z n k q tm 0) = goV Z n k q tm - goV Z n k q tm / 1000 * 1000 ∧ Int32.toInt64 (wpR Z n k q tm 1) = goV Z n k q tm / 1000 - goV Z n k q tm / 1000 / 1000 * 1000 ∧ Int32.toInt64 (wpR Z n k q tm 2) = goV Z n k q tm / 1000000 := by
  obtain ⟨m, d, t, m1, d1, t1, em, ed, et, eg⟩ := told_n hO ho hk hq ht
  obtain ⟨w0, w1, w2⟩ := wp_at (tm := tm) htk
  rw [w0, w1, w2, em, ed, et, eg, nI_l (by omega), nI_l (by omega), nI_l (by omega), show (1000000 : Int64) = lN 1000000 from rfl, show (1000 : Int64) = lN 1000 from rfl]
  rw [pk_lRem (by omega) (by omega) (by omega), pk_lDiv (by omega) (by omega) (by omega), pk_lRem (by omega) (by omega) (by omega), pk_lDiv (by omega) (by omega) (by omega)]
  refine ⟨congrArg lN (by omega), congrArg lN (by omega), congrArg lN (by omega)⟩
/-- the sockets by trying from above -/
def itv (Z : Nat → Int32) (n a s : Nat) : Int64 := goV Z n a s 24 - goV Z n a s 24 / 1000000 * 1000000
def dnS (Z : Nat → Int32) (n a : Nat) : Nat → Int32 × Int64
  | 0 => (-1, 0)
  | i + 1 => if tknB Z n a (nI (11 - i)) = true then dnS Z n a i else if (dnS Z n a i).1 < 0 ∨ itv Z n a (11 - i) ≤ (dnS Z n a i).2 then (nI (11 - i), itv Z n a (11 - i)) else dnS Z n a i
def ky (Z : Nat → Int32) (n a s : Nat) : Nat := 1000 * iN (wpR Z n a s 24 1) + iN (wpR Z n a s 24 0)
theorem ky_n {Z : Nat → Int32} {n a s : Nat} (hO : oI Z n) (ho : hOn Z) (ha : a < n) (hs : s < 12) (htk : tknB Z n a (nI s) = false) : ∃ d t, d ≤ 480 ∧ t ≤ 192 ∧ wpR Z n a s 24 1 = nI d ∧ wpR Z n a s 24 0 = nI t ∧ ky Z n a s = 1000 * d + t ∧ itv Z n a s = lN (1000 * d + t) := by
  obtain ⟨m, d, t, m1, d1, t1, em, ed, et, eg⟩ := told_n hO ho ha hs (show 24 ≤ 48 by omega)
  obtain ⟨w0, w1, w2⟩ := wp_at (tm := 24) htk
  refine ⟨d, t, d1, t1, w1.trans ed, w0.trans et, ?_, ?_⟩
  · unfold ky; rw [w1, w0, ed, et, nI_iN (a := d) (by omega) rfl, nI_iN (a := t) (by omega) rfl]
  · unfold itv; rw [eg, show (1000000 : Int64) = lN 1000000 from rfl, pk_lRem (by omega) (by omega) (by omega)]
    exact congrArg lN (by omega)
theorem dn_inv {Z : Nat → Int32} {n a : Nat} (hO : oI Z n) (ho : hOn Z) (ha : a < n) : ∀ i, i ≤ 12 → (dnS Z n a i = (-1, 0) ∧ ∀ s, 12 - i ≤ s → s < 12 → tknB Z n a (nI s) = true) ∨ ∃ j, 12 - i ≤ j ∧ j < 12 ∧ tknB Z n a (nI j) = false ∧ dnS Z n a i = (nI j, lN (ky Z n a j)) ∧ ∀ s, 12 - i ≤ s → s < 12 → tknB Z n a (nI s) = false → ky Z n a j ≤ ky Z n a s ∧ (ky Z n a s = ky Z n a j → j ≤ s)
  | 0, _ => Or.inl ⟨rfl, fun s h1 h2 => by omega⟩
  | i + 1, hi => by
    have ih := dn_inv hO ho ha i (by omega)
    by_cases c : tknB Z n a (nI (11 - i)) = true
    · have e : dnS Z n a (i + 1) = dnS Z n a i := if_pos c
      rw [e]
      rcases ih with ⟨h1, h2⟩ | ⟨j, j1, j2, j3, j4, j5⟩
      · exact Or.inl ⟨h1, fun s h3 h4 => by
          by_cases q : s = 11 - i
          · rw [q]; exact c
          · exact h2 s (by omega) h4⟩
      · exact Or.inr ⟨j, by omega, j2, j3, j4, fun s h3 h4 h5 => by
          by_cases q : s = 11 - i
          · rw [q] at h5; rw [h5] at c; exact absurd c (by decide)
          · exact j5 s (by omega) h4 h5⟩
    · have c' : tknB Z n a (nI (11 - i)) = false := by simpa using c
      obtain ⟨d, t, d1, t1, -, -, ek, ei⟩ := ky_n hO ho ha (show 11 - i < 12 by omega) c'
      by_cases b : (dnS Z n a i).1 < 0 ∨ itv Z n a (11 - i) ≤ (dnS Z n a i).2
      · have e : dnS Z n a (i + 1) = (nI (11 - i), itv Z n a (11 - i)) := (if_neg c).trans (if_pos b)
        refine Or.inr ⟨11 - i, by omega, by omega, c', by rw [e, ei, ek], fun s h3 h4 h5 => ?_⟩
        by_cases q : s = 11 - i
        · rw [q]; exact ⟨Nat.le_refl _, fun _ => Nat.le_refl _⟩
        · rcases ih with ⟨h1, h2⟩ | ⟨j, j1, j2, j3, j4, j5⟩
          · rw [h2 s (by omega) h4] at h5; exact absurd h5 (by decide)
          · obtain ⟨d', t', d1', t1', -, -, ek', -⟩ := ky_n hO ho ha j2 j3
            have b' : ky Z n a (11 - i) ≤ ky Z n a j := by
              rw [j4] at b
              rcases b with b | b
              · exact absurd b (nI_pos (by omega))
              · rw [ei, ← ek] at b
                exact (pk_lLE (by omega) (by omega)).mp b
            have := j5 s (by omega) h4 h5
            exact ⟨by omega, fun h => by omega⟩
      · have e : dnS Z n a (i + 1) = dnS Z n a i := (if_neg c).trans (if_neg b)
        rw [e]
        rcases ih with ⟨h1, h2⟩ | ⟨j, j1, j2, j3, j4, j5⟩
        · rw [h1] at b; exact absurd (Or.inl (by decide)) b
        · obtain ⟨d', t', d1', t1', -, -, ek', -⟩ := ky_n hO ho ha j2 j3
          have b' : ky Z n a j < ky Z n a (11 - i) := by
            rw [j4] at b
            have b2 : ¬ itv Z n a (11 - i) ≤ lN (ky Z n a j) := fun h => b (Or.inr h)
            rw [ei, ← ek] at b2
            have b3 : ¬ ky Z n a (11 - i) ≤ ky Z n a j := fun h => b2 ((pk_lLE (a := ky Z n a (11 - i)) (b := ky Z n a j) (by omega) (by omega)).mpr h)
            omega
          exact Or.inr ⟨j, by omega, j2, j3, j4, fun s h3 h4 h5 => by
            by_cases q : s = 11 - i
            · rw [q]; exact ⟨by omega, fun h => by omega⟩
            · exact j5 s (by omega) h4 h5⟩
theorem bf_inv {Z : Nat → Int32} {n a : Nat} (hO : oI Z n) (ho : hOn Z) (ha : a < n) : ∀ i, i ≤ 12 → ((bfS Z n a i).1 = -1 ∧ ∀ s, s < i → tknB Z n a (nI s) = true) ∨ ∃ j, j < i ∧ tknB Z n a (nI j) = false ∧ bfS Z n a i = (nI j, wpR Z n a j 24 1, wpR Z n a j 24 0) ∧ ∀ s, s < i → tknB Z n a (nI s) = false → ky Z n a j ≤ ky Z n a s ∧ (ky Z n a s = ky Z n a j → j ≤ s)
  | 0, _ => Or.inl ⟨rfl, fun s h => absurd h (Nat.not_lt_zero _)⟩
  | i + 1, hi => by
    have ih := bf_inv hO ho ha i (by omega)
    by_cases c : tknB Z n a (nI i) = true
    · have e : bfS Z n a (i + 1) = bfS Z n a i := if_pos c
      rw [e]
      rcases ih with ⟨h1, h2⟩ | ⟨j, j1, j3, j4, j5⟩
      · exact Or.inl ⟨h1, fun s h3 => by
          by_cases q : s = i
          · rw [q]; exact c
          · exact h2 s (by omega)⟩
      · exact Or.inr ⟨j, by omega, j3, j4, fun s h3 h5 => by
          by_cases q : s = i
          · rw [q] at h5; rw [h5] at c; exact absurd c (by decide)
          · exact j5 s (by omega) h5⟩
    · have c' : tknB Z n a (nI i) = false := by simpa using c
      obtain ⟨d, t, d1, t1, e1, e0, ek, -⟩ := ky_n hO ho ha (show i < 12 by omega) c'
      by_cases b : (bfS Z n a i).1 = -1 ∨ wpR Z n a i 24 1 < (bfS Z n a i).2.1 ∨ (wpR Z n a i 24 1 = (bfS Z n a i).2.1 ∧ wpR Z n a i 24 0 < (bfS Z n a i).2.2)
      · have e : bfS Z n a (i + 1) = (nI i, wpR Z n a i 24 1, wpR Z n a i 24 0) := (if_neg c).trans (if_pos b)
        refine Or.inr ⟨i, by omega, c', e, fun s h3 h5 => ?_⟩
        by_cases q : s = i
        · rw [q]; exact ⟨Nat.le_refl _, fun _ => Nat.le_refl _⟩
        · rcases ih with ⟨h1, h2⟩ | ⟨j, j1, j3, j4, j5⟩
          · rw [h2 s (by omega)] at h5; exact absurd h5 (by decide)
          · obtain ⟨d', t', d1', t1', e1', e0', ek', -⟩ := ky_n hO ho ha (show j < 12 by omega) j3
            have b' : ky Z n a i < ky Z n a j := by
              rw [j4] at b
              rw [ek, ek']
              rcases b with b | b | ⟨b1, b2⟩
              · exact absurd b (nI_nm1 (by omega))
              · have b : wpR Z n a i 24 1 < wpR Z n a j 24 1 := b
                rw [e1, e1', nI_ltI (by omega) (by omega)] at b; omega
              · have b1 : wpR Z n a i 24 1 = wpR Z n a j 24 1 := b1
                have b2 : wpR Z n a i 24 0 < wpR Z n a j 24 0 := b2
                rw [e1, e1', nI_eq (by omega) (by omega)] at b1
                rw [e0, e0', nI_ltI (by omega) (by omega)] at b2
                omega
            have := j5 s (by omega) h5
            exact ⟨by omega, fun h => by omega⟩
      · have e : bfS Z n a (i + 1) = bfS Z n a i := (if_neg c).trans (if_neg b)
        rw [e]
        rcases ih with ⟨h1, h2⟩ | ⟨j, j1, j3, j4, j5⟩
        · exact absurd (Or.inl h1) b
        · obtain ⟨d', t', d1', t1', e1', e0', ek', -⟩ := ky_n hO ho ha (show j < 12 by omega) j3
          have b' : ky Z n a j ≤ ky Z n a i := by
            rw [j4] at b
            rw [ek, ek']
            have b2 : ¬ wpR Z n a i 24 1 < wpR Z n a j 24 1 := fun h => b (Or.inr (Or.inl h))
            have b3 : ¬ (wpR Z n a i 24 1 = wpR Z n a j 24 1 ∧ wpR Z n a i 24 0 < wpR Z n a j 24 0) := fun h => b (Or.inr (Or.inr h))
            rw [e1, e1', nI_ltI (by omega) (by omega)] at b2
            rw [e1, e1', e0, e0', nI_eq (by omega) (by omega), nI_ltI (by omega) (by omega)] at b3
            omega
          exact Or.inr ⟨j, by omega, j3, j4, fun s h3 h5 => by
            by_cases q : s = i
            · rw [q]; exact ⟨by omega, fun h => by omega⟩
            · exact j5 s (by omega) h5⟩
theorem best_eq {Z : Nat → Int32} {n a : Nat} (hO : oI Z n) (ho : hOn Z) (ha : a < n) : (bfS Z n a 12).1 = (dnS Z n a 12).1 := by
  rcases bf_inv hO ho ha 12 (Nat.le_refl 12) with ⟨h1, h2⟩ | ⟨j, j1, j3, j4, j5⟩
  · rcases dn_inv hO ho ha 12 (Nat.le_refl 12) with ⟨k1, k2⟩ | ⟨i, i1, i2, i3, i4, i5⟩
    · rw [h1, k1]
    · rw [h2 i i2] at i3; exact absurd i3 (by decide)
  · rcases dn_inv hO ho ha 12 (Nat.le_refl 12) with ⟨k1, k2⟩ | ⟨i, i1, i2, i3, i4, i5⟩
    · rw [k2 j (by omega) j1] at j3; exact absurd j3 (by decide)
    · have a1 := j5 i i2 i3
      have a2 := i5 j (by omega) j1 j3
      rw [j4, i4]
      exact congrArg nI (by omega)
theorem ox_neg {x : Nat} (hx : x ≤ 10) : (ox x < 0) ↔ ox x = -1 := by
  by_cases h : x = 10
  · rw [ox_10 h]; decide
  · rw [ox_n h]; exact ⟨fun q => absurd q (nI_pos (by omega)), fun q => absurd q (nI_nm1 (by omega))⟩
theorem sat_le {Z : Nat → Int32} {q : Int32} {n : Nat} (hn : n ≤ 10) : satN Z q n ≤ 10 := by
  rcases satN_at (Z := Z) (q := q) n hn with ⟨h, -⟩ | ⟨h, -⟩ <;> omega
theorem tk_neg {Z : Nat → Int32} {n k : Nat} {q : Int32} (hn : n ≤ 10) (h : ox (satN Z q n) < 0) : tknB Z n k q = false := by
  unfold tknB; rw [decide_eq_false (fun h9 => h9 ((ox_neg (sat_le hn)).mp h))]; rfl
theorem tk_same {Z : Nat → Int32} {n k : Nat} {q : Int32} (h : ox (satN Z q n) = nI k) : tknB Z n k q = false := by
  unfold tknB; rw [decide_eq_false (p := ¬ ox (satN Z q n) = nI k) (fun h9 => h9 h), Bool.and_false]
theorem tk_yes {Z : Nat → Int32} {n k : Nat} {q : Int32} (hn : n ≤ 10) (h1 : ¬ ox (satN Z q n) < 0) (h2 : ¬ ox (satN Z q n) = nI k) : tknB Z n k q = true := by
  unfold tknB; rw [decide_eq_true (p := ¬ ox (satN Z q n) = -1) (fun h9 => h1 ((ox_neg (sat_le hn)).mpr h9)), decide_eq_true (p := ¬ ox (satN Z q n) = nI k) h2]; rfl
/-- a breaker's trips in hours -/
theorem hr_3t {Y : Nat → Int32} {n b : Nat} (hw : zW Y n) (hb : b < 4) (hbw : Y (7 + 5 * b + 1) = 0 ∨ Y (7 + 5 * b + 1) = 1) : (hrZ Y n (7 + 5 * b + 1) = nI 1 → Y (7 + 5 * b + 1) = nI 1 ∧ hrZ Y n (7 + 5 * b + 3) = Y (7 + 5 * b + 3)) ∧ (¬ hrZ Y n (7 + 5 * b + 1) = nI 1 → Y (7 + 5 * b + 1) = nI 1 → hrZ Y n (7 + 5 * b + 3) = Y (7 + 5 * b + 3) + nI 1) ∧ (¬ Y (7 + 5 * b + 1) = nI 1 → hrZ Y n (7 + 5 * b + 3) = Y (7 + 5 * b + 3)) := by
  have eA1 : hrA Y n (7 + 5 * b + 1) = Y (7 + 5 * b + 1) := hrA_at hw (by omega) (by omega) (fun k => ⟨by omega, by omega, by omega⟩) (fun c hc => ⟨by omega, by omega⟩)
  have eA3 : hrA Y n (7 + 5 * b + 3) = Y (7 + 5 * b + 3) := hrA_at hw (by omega) (by omega) (fun k => ⟨by omega, by omega, by omega⟩) (fun c hc => ⟨by omega, by omega⟩)
  obtain ⟨t1, t2⟩ := trip_on (W := hrA Y n) hb 4 (Nat.le_refl 4)
  have e1 : hrZ Y n (7 + 5 * b + 1) = if b < 4 ∧ trC (hrA Y n) b = true then nI 0 else Y (7 + 5 * b + 1) := by
    unfold hrZ; rw [upd_n (by omega), t1, eA1]
  have e3 : hrZ Y n (7 + 5 * b + 3) = if b < 4 ∧ trC (hrA Y n) b = true then Y (7 + 5 * b + 3) + nI 1 else Y (7 + 5 * b + 3) := by
    unfold hrZ; rw [upd_n (by omega), t2, eA3]
  by_cases c : b < 4 ∧ trC (hrA Y n) b = true
  · rw [if_pos c] at e1 e3
    have hon : Y (7 + 5 * b + 1) = nI 1 := by
      have := c.2; unfold trC at this; rw [Bool.and_eq_true, decide_eq_true_eq, eA1] at this; exact this.1
    exact ⟨fun h => absurd (e1.symm.trans h) (by decide), fun _ _ => e3, fun h => absurd hon h⟩
  · rw [if_neg c] at e1 e3
    exact ⟨fun h => ⟨e1.symm.trans h, e3⟩, fun h h2 => absurd (e1.trans h2) h, fun _ => e3⟩
theorem hs_3t {Y : Nat → Int32} {n b : Nat} (hO : oI Y n) (ho : hOn Y) (hb : b < 4) (hon : Y (7 + 5 * b + 1) = nI 1) : ∀ i, (hsZ Y n i (7 + 5 * b + 1) = nI 1 → hsZ Y n i (7 + 5 * b + 3) = Y (7 + 5 * b + 3)) ∧ (¬ hsZ Y n i (7 + 5 * b + 1) = nI 1 → hsZ Y n i (7 + 5 * b + 3) = Y (7 + 5 * b + 3) + nI 1)
  | 0 => ⟨fun _ => rfl, fun h => absurd hon h⟩
  | i + 1 => by
    obtain ⟨q1, q2⟩ := hs_3t hO ho hb hon i
    obtain ⟨-, k1, k2⟩ := hs_all (M := Y) (fun _ _ => rfl) hO ho i
    obtain ⟨r1, r2, r3⟩ := hr_3t (Y := hsZ Y n i) (n := n) (oI_zW k1) hb ((oI_bW k1).2.1 b hb)
    refine ⟨fun h => ?_, fun h => ?_⟩
    · exact (r1 h).2.trans (q1 (r1 h).1)
    · by_cases c : hsZ Y n i (7 + 5 * b + 1) = nI 1
      · exact (r2 h c).trans (by rw [q1 c])
      · exact (r3 c).trans (q2 c)
