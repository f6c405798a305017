/-! CLASS AND REFERENCE: meters, trips, the hour -/
theorem met_rel {P W Y : Nat → Int32} {n : Nat} (hO : oI Y n) (h : relM P W Y n 0) : ∀ i, i ≤ n → relM (cMeS P (hrD Y) i) (metS W i) Y n i
  | 0, _ => h
  | i + 1, hi => met_step hO (by omega) (met_rel hO h i (by omega))
theorem met_fin {P W Y : Nat → Int32} {n : Nat} (h : relM P W Y n n) : eqZ P W n := by
  obtain ⟨e1, e2, e3, _, _⟩ := h
  intro z hz
  by_cases q : ∀ c, c < 4 → z ≠ 7 + 5 * c + 4
  · exact e1 z hz q
  · have hx : ∃ c, c < 4 ∧ z = 7 + 5 * c + 4 := Classical.byContradiction (fun w => q (fun c hc4 e => w ⟨c, hc4, e⟩))
    obtain ⟨c, hc4, rfl⟩ := hx
    rw [e2 c hc4, e3 c hc4]
theorem tr_rel {P W : Nat → Int32} {n b : Nat} (h : eqZ P W n) (hb : bW W n) (hb4 : b < 4) : eqZ (cTr P b) (if trC W b = true then tr1 W b else W) n := by
  unfold cTr trC
  rw [h _ (show 7 + 5 * b + 1 < 39 + 8 * n by omega), h _ (show 7 + 5 * b + 2 < 39 + 8 * n by omega)]
  have n1 : ¬ (0 : Int32) = nI 1 := by decide
  have n2 : ¬ (1 : Int32) = 0 := by decide
  have n3 : (1 : Int32) = nI 1 := rfl
  rcases hb.2.1 b hb4 with c | c
  · rw [c, if_pos rfl, decide_eq_false n1, Bool.false_and, if_neg Bool.false_ne_true]; exact h
  · rw [c, if_neg n2, decide_eq_true n3, Bool.true_and]
    by_cases q : W (7 + 5 * b + 2) ≤ nI 9
    · rw [if_pos q, if_neg (by rw [decide_eq_false (Int32.not_lt.mpr q)]; exact Bool.false_ne_true)]; exact h
    · rw [if_neg q, if_pos (decide_eq_true (Int32.not_le.mp q))]
      unfold tr1
      have e : (upd P (7 + 5 * b + 1) (nI 0)) (7 + 5 * b + 3) = (upd W (7 + 5 * b + 1) (nI 0)) (7 + 5 * b + 3) := by
        rw [upd_n (by omega), upd_n (by omega), h _ (by omega)]
      rw [e]
      exact eqZ_upd (eqZ_upd h)
theorem tr1_bW {W : Nat → Int32} {n b : Nat} (h : bW W n) (hb4 : b < 4) : bW (tr1 W b) n := by
  unfold tr1
  refine ⟨fun k hk => by rw [upd_n (by omega), upd_n (by omega)]; exact h.1 k hk, fun c hc => ?_, fun q hq => by rw [upd_n (by omega), upd_n (by omega)]; exact h.2.2 q hq⟩
  rw [upd_n (by omega)]
  by_cases e : c = b
  · subst e; left; rw [upd_s]; rfl
  · rw [upd_n (by omega)]; exact h.2.1 c hc
theorem trip_bW {W : Nat → Int32} {n : Nat} (h : bW W n) : ∀ i, i ≤ 4 → bW (tripZ W i) n
  | 0, _ => h
  | i + 1, hi => by
    show bW (if trC (tripZ W i) i = true then tr1 (tripZ W i) i else tripZ W i) n
    split
    · exact tr1_bW (trip_bW h i (by omega)) (by omega)
    · exact trip_bW h i (by omega)
theorem trip_rel {P W : Nat → Int32} {n : Nat} (h : eqZ P W n) (hb : bW W n) : ∀ i, i ≤ 4 → eqZ (cTrA P i) (tripZ W i) n
  | 0, _ => h
  | i + 1, hi => tr_rel (trip_rel h hb i (by omega)) (trip_bW hb i (by omega)) (by omega)
theorem trip_at {W : Nat → Int32} {z : Nat} (hz : ∀ c, c < 4 → z ≠ 7 + 5 * c + 1 ∧ z ≠ 7 + 5 * c + 3) : ∀ i, i ≤ 4 → tripZ W i z = W z
  | 0, _ => rfl
  | i + 1, hi => by
    show (if trC (tripZ W i) i = true then tr1 (tripZ W i) i else tripZ W i) z = _
    split
    · unfold tr1; rw [upd_n (hz i (by omega)).2, upd_n (hz i (by omega)).1]; exact trip_at hz i (by omega)
    · exact trip_at hz i (by omega)
theorem trip_ge {W : Nat → Int32} {c : Nat} (hc : c < 4) : ∀ i, i ≤ c → tripZ W i (7 + 5 * c + 1) = W (7 + 5 * c + 1) ∧ tripZ W i (7 + 5 * c + 3) = W (7 + 5 * c + 3)
  | 0, _ => ⟨rfl, rfl⟩
  | i + 1, hi => by
    have ih := trip_ge (W := W) hc i (by omega)
    show (if trC (tripZ W i) i = true then tr1 (tripZ W i) i else tripZ W i) (7 + 5 * c + 1) = _ ∧ (if trC (tripZ W i) i = true then tr1 (tripZ W i) i else tripZ W i) (7 + 5 * c + 3) = _
    split
    · unfold tr1; rw [upd_n (by omega), upd_n (by omega), upd_n (by omega), upd_n (by omega)]; exact ih
    · exact ih
theorem trC_ge {W : Nat → Int32} {c : Nat} (hc : c < 4) {i : Nat} (hi : i ≤ c) : trC (tripZ W i) c = trC W c := by
  unfold trC
  rw [(trip_ge hc i hi).1, trip_at (z := 7 + 5 * c + 2) (fun _ _ => ⟨by omega, by omega⟩) i (by omega)]
theorem trip_on {W : Nat → Int32} {c : Nat} (hc : c < 4) : ∀ i, i ≤ 4 → tripZ W i (7 + 5 * c + 1) = (if c < i ∧ trC W c = true then nI 0 else W (7 + 5 * c + 1)) ∧ tripZ W i (7 + 5 * c + 3) = (if c < i ∧ trC W c = true then W (7 + 5 * c + 3) + nI 1 else W (7 + 5 * c + 3))
  | 0, _ => by rw [if_neg (fun q => absurd q.1 (Nat.not_lt_zero _)), if_neg (fun q => absurd q.1 (Nat.not_lt_zero _))]; exact ⟨rfl, rfl⟩
  | i + 1, hi => by
    have ih := trip_on (W := W) hc i (by omega)
    show (if trC (tripZ W i) i = true then tr1 (tripZ W i) i else tripZ W i) (7 + 5 * c + 1) = _ ∧ (if trC (tripZ W i) i = true then tr1 (tripZ W i) i else tripZ W i) (7 + 5 * c + 3) = _
    by_cases e : c = i
    · subst e
      rw [trC_ge hc (Nat.le_refl c)]
      have g := trip_ge (W := W) hc c (Nat.le_refl c)
      by_cases q : trC W c = true
      · rw [if_pos q, if_pos ⟨by omega, q⟩, if_pos ⟨by omega, q⟩]
        unfold tr1
        rw [upd_n (by omega), upd_s, upd_s, upd_n (by omega), g.2]
        exact ⟨rfl, rfl⟩
      · rw [if_neg q, if_neg (fun w => q w.2), if_neg (fun w => q w.2)]
        exact g
    · have h1 : ∀ (u v : Int32), (if c < i + 1 ∧ trC W c = true then u else v) = if c < i ∧ trC W c = true then u else v := fun u v => by
        by_cases q : c < i ∧ trC W c = true
        · rw [if_pos q, if_pos ⟨by omega, q.2⟩]
        · rw [if_neg q, if_neg (fun w => q ⟨by omega, w.2⟩)]
      rw [h1, h1]
      by_cases q : trC (tripZ W i) i = true
      · rw [if_pos q]; unfold tr1; rw [upd_n (by omega), upd_n (by omega), upd_n (by omega), upd_n (by omega)]; exact ih
      · rw [if_neg q]; exact ih
/-- cells that the hour leaves alone -/
theorem met_at {W : Nat → Int32} {z : Nat} (h6 : z ≠ 6) (hk : ∀ k, z ≠ 39 + 8 * k + 6 ∧ z ≠ 39 + 8 * k + 7) : ∀ i, metS W i z = W z
  | 0 => rfl
  | i + 1 => by
    show meterZ (metS W i) i z = _
    unfold meterZ mt2 mt1
    rw [upd_n h6, upd_n (hk i).2, upd_n (hk i).1, met_at h6 hk i]
theorem hrA_at {Z : Nat → Int32} {n z : Nat} (hw : zW Z n) (h5 : z ≠ 5) (h6 : z ≠ 6) (hk : ∀ k, z ≠ 39 + 8 * k + 5 ∧ z ≠ 39 + 8 * k + 6 ∧ z ≠ 39 + 8 * k + 7) (hb : ∀ c, c < 4 → z ≠ 7 + 5 * c + 2 ∧ z ≠ 7 + 5 * c + 4) : hrA Z n z = Z z := by
  unfold hrA
  rw [met_at h6 (fun k => (hk k).2) n, warm_at hb 4 (Nat.le_refl 4), shdS_at hw h5 (fun k _ => (hk k).1) 4 (Nat.le_refl 4)]
theorem hr_at {Z : Nat → Int32} {n z : Nat} (hw : zW Z n) (h3 : z ≠ 3) (h5 : z ≠ 5) (h6 : z ≠ 6) (hk : ∀ k, z ≠ 39 + 8 * k + 5 ∧ z ≠ 39 + 8 * k + 6 ∧ z ≠ 39 + 8 * k + 7) (hb : ∀ c, c < 4 → z ≠ 7 + 5 * c + 1 ∧ z ≠ 7 + 5 * c + 2 ∧ z ≠ 7 + 5 * c + 3 ∧ z ≠ 7 + 5 * c + 4) : hrZ Z n z = Z z := by
  unfold hrZ
  rw [upd_n h3, trip_at (fun c hc => ⟨(hb c hc).1, (hb c hc).2.2.1⟩) 4 (Nat.le_refl 4), hrA_at hw h5 h6 hk (fun c hc => ⟨(hb c hc).2.1, (hb c hc).2.2.2⟩)]
/-- a row that is in order stays so -/
theorem shS_oI {Z : Nat → Int32} {n b : Nat} (h : oI Z n) : oI (shS Z b n) n := by
  have h10 := h.1
  unfold shS
  refine oI_upd (oI_upd h (cOk_flag (Or.inr rfl) (by omega) (by omega) (fun _ _ => ⟨by omega, by omega, by omega⟩) (fun _ _ => ⟨by omega, by omega⟩))) (cOk_free (by omega) (by omega) (by omega) (fun _ _ => ⟨by omega, by omega, by omega, by omega⟩) (fun _ _ => ⟨by omega, by omega, by omega⟩) (fun _ _ => by omega))
theorem shL_oI {b n : Nat} : ∀ f {Z : Nat → Int32}, oI Z n → oI (shL b n f Z) n
  | 0, _, h => h
  | f + 1, Z, h => by
    show oI (if shC Z b n = true then shL b n f (shS Z b n) else Z) n
    split
    · exact shL_oI f (shS_oI h)
    · exact h
theorem shdS_oI {Z : Nat → Int32} {n : Nat} (h : oI Z n) : ∀ i, oI (shdS Z n i) n
  | 0 => h
  | i + 1 => shL_oI 10 (shdS_oI h i)
theorem shdS_hOn {Z : Nat → Int32} {n : Nat} (hw : zW Z n) (h : hOn Z) : hOn (shdS Z n 4) := by
  intro b hb q
  rw [shdS_at hw (by omega) (fun _ _ => by omega) 4 (Nat.le_refl 4)] at q ⊢
  exact h b hb q
theorem meter_oI {W : Nat → Int32} {n k : Nat} (h : oI W n) : oI (meterZ W k) n := by
  have h10 := h.1
  unfold meterZ mt2 mt1
  exact oI_upd (oI_upd (oI_upd h (cOk_free (by omega) (by omega) (by omega) (fun _ _ => ⟨by omega, by omega, by omega, by omega⟩) (fun _ _ => ⟨by omega, by omega, by omega⟩) (fun _ _ => by omega))) (cOk_free (by omega) (by omega) (by omega) (fun _ _ => ⟨by omega, by omega, by omega, by omega⟩) (fun _ _ => ⟨by omega, by omega, by omega⟩) (fun _ _ => by omega))) (cOk_free (by omega) (by omega) (by omega) (fun _ _ => ⟨by omega, by omega, by omega, by omega⟩) (fun _ _ => ⟨by omega, by omega, by omega⟩) (fun _ _ => by omega))
theorem metS_oI {W : Nat → Int32} {n : Nat} (h : oI W n) : ∀ i, oI (metS W i) n
  | 0 => h
  | i + 1 => meter_oI (metS_oI h i)
theorem tr1_oI {W : Nat → Int32} {n b : Nat} (h : oI W n) (hb4 : b < 4) : oI (tr1 W b) n := by
  have h10 := h.1
  unfold tr1
  exact oI_upd (oI_upd h (cOk_flag (Or.inl rfl) (by omega) (by omega) (fun _ _ => ⟨by omega, by omega, by omega⟩) (fun _ _ => ⟨by omega, by omega⟩))) (cOk_free (by omega) (by omega) (by omega) (fun _ _ => ⟨by omega, by omega, by omega, by omega⟩) (fun _ _ => ⟨by omega, by omega, by omega⟩) (fun _ _ => by omega))
theorem trip_oI {W : Nat → Int32} {n : Nat} (h : oI W n) : ∀ i, i ≤ 4 → oI (tripZ W i) n
  | 0, _ => h
  | i + 1, hi => by
    show oI (if trC (tripZ W i) i = true then tr1 (tripZ W i) i else tripZ W i) n
    split
    · exact tr1_oI (trip_oI h i (by omega)) (by omega)
    · exact trip_oI h i (by omega)
theorem hrA_oI {Z : Nat → Int32} {n : Nat} (h : oI Z n) (ho : hOn Z) : oI (hrA Z n) n := metS_oI (warm_oI (shdS_oI h 4) (shdS_hOn (oI_zW h) ho) 4 (Nat.le_refl 4)) n
theorem hr_oI {Z : Nat → Int32} {n : Nat} (h : oI Z n) (ho : hOn Z) : oI (hrZ Z n) n := by
  have h10 := h.1
  unfold hrZ
  exact oI_upd (trip_oI (hrA_oI h ho) 4 (Nat.le_refl 4)) (cOk_free (by omega) (by omega) (by omega) (fun _ _ => ⟨by omega, by omega, by omega, by omega⟩) (fun _ _ => ⟨by omega, by omega, by omega⟩) (fun _ _ => by omega))
theorem hr_hOn {Z : Nat → Int32} {n : Nat} (h : oI Z n) (ho : hOn Z) : hOn (hrZ Z n) := by
  intro b hb q
  unfold hrZ at q ⊢
  rw [upd_n (by omega), (trip_on hb 4 (Nat.le_refl 4)).1] at q
  rw [upd_n (by omega), trip_at (fun _ _ => ⟨by omega, by omega⟩) 4 (Nat.le_refl 4)]
  obtain ⟨a, a1, a2⟩ := oI_heat (hrA_oI h ho) hb
  by_cases c : b < 4 ∧ trC (hrA Z n) b = true
  · rw [if_pos c] at q; exact absurd q (by decide)
  · rw [if_neg c] at q
    refine ⟨a, ?_, a2⟩
    refine Nat.le_of_not_lt (fun w => c ⟨hb, ?_⟩)
    unfold trC
    rw [q, a2, decide_eq_true (nI_lt (a := 9) (b := a) w (by omega))]
    decide
theorem hr_eq {M Z : Nat → Int32} {n : Nat} (h : eqZ M Z n) (hO : oI Z n) (ho : hOn Z) : eqZ (cHr M n) (hrZ Z n) n := by
  have hw := oI_zW hO
  have hY := shdS_oI hO 4
  have h1 := ch1_rel h hw (oI_bW hO) (oI_rk hO)
  have h2 := heat_rel h1 hY
  have hd : hrD (ch2 M n) = hrD (shdS Z n 4) := by
    unfold hrD ch2
    rw [h2.1 3 (by omega) (fun _ _ => by omega), warm_at (fun _ _ => ⟨by omega, by omega⟩) 4 (Nat.le_refl 4)]
  have h3 : eqZ (ch3 M n) (hrA Z n) n := by
    unfold ch3
    rw [hd]
    exact met_fin (met_rel hY h2 n (Nat.le_refl n))
  have h4 : eqZ (ch4 M n) (tripZ (hrA Z n) 4) n := trip_rel h3 (oI_bW (hrA_oI hO ho)) 4 (Nat.le_refl 4)
  unfold cHr hrZ
  rw [h4 3 (by omega)]
  exact eqZ_upd h4
theorem hs_all {M Z : Nat → Int32} {n : Nat} (h : eqZ M Z n) (hO : oI Z n) (ho : hOn Z) : ∀ i, eqZ (cHs M n i) (hsZ Z n i) n ∧ oI (hsZ Z n i) n ∧ hOn (hsZ Z n i)
  | 0 => ⟨h, hO, ho⟩
  | i + 1 => by
    obtain ⟨a, b, c⟩ := hs_all h hO ho i
    exact ⟨hr_eq a b c, hr_oI b c, hr_hOn b c⟩
theorem hs_at {Z : Nat → Int32} {n z : Nat} (hw : zW Z n) (h3 : z ≠ 3) (h5 : z ≠ 5) (h6 : z ≠ 6) (hk : ∀ k, z ≠ 39 + 8 * k + 5 ∧ z ≠ 39 + 8 * k + 6 ∧ z ≠ 39 + 8 * k + 7) (hb : ∀ c, c < 4 → z ≠ 7 + 5 * c + 1 ∧ z ≠ 7 + 5 * c + 2 ∧ z ≠ 7 + 5 * c + 3 ∧ z ≠ 7 + 5 * c + 4) : ∀ i, hsZ Z n i z = Z z
  | 0 => rfl
  | i + 1 => (hr_at (hsZ_zW hw i) h3 h5 h6 hk hb).trans (hs_at hw h3 h5 h6 hk hb i)
/-- how often breakers trip, out of what they count -/
theorem sumB_congr {X Y : Nat → Int32} {w : Nat} : ∀ m, (∀ b, b < m → Y (7 + 5 * b + w) = X (7 + 5 * b + w)) → sumB Y w m = sumB X w m
  | 0, _ => rfl
  | m + 1, h => by unfold sumB; rw [sumB_congr m (fun b hb => h b (by omega)), h m (by omega)]
theorem sumB_inc {X Y : Nat → Int32} {w i : Nat} : ∀ m, i < m → (∀ b, b < m → b ≠ i → Y (7 + 5 * b + w) = X (7 + 5 * b + w)) → Y (7 + 5 * i + w) = X (7 + 5 * i + w) + nI 1 → sumB Y w m = sumB X w m + nI 1
  | 0, h, _, _ => absurd h (Nat.not_lt_zero _)
  | m + 1, h, h1, h2 => by
    unfold sumB
    by_cases e : i = m
    · subst e
      rw [sumB_congr i (fun b hb => h1 b (by omega) (by omega)), h2, Int32.add_assoc]
    · rw [sumB_inc m (by omega) (fun b hb hne => h1 b (by omega) hne) h2, h1 m (by omega) (Ne.symm e), Int32.add_assoc, Int32.add_assoc, Int32.add_comm (nI 1)]
theorem trip_sum {W : Nat → Int32} : ∀ i, i ≤ 4 → sumB (tripZ W i) 3 4 = sumB W 3 4 + tripT W i
  | 0, _ => (Int32.add_zero _).symm
  | i + 1, hi => by
    show sumB (if trC (tripZ W i) i = true then tr1 (tripZ W i) i else tripZ W i) 3 4 = sumB W 3 4 + (if trC (tripZ W i) i = true then tripT W i + nI 1 else tripT W i)
    by_cases c : trC (tripZ W i) i = true
    · rw [if_pos c, if_pos c, ← Int32.add_assoc, ← trip_sum i (by omega)]
      refine sumB_inc 4 (show i < 4 by omega) (fun b hb hne => ?_) ?_
      · unfold tr1; rw [upd_n (by omega), upd_n (by omega)]
      · unfold tr1; rw [upd_s, upd_n (by omega)]
    · rw [if_neg c, if_neg c, trip_sum i (by omega)]
theorem hr_sum {Z : Nat → Int32} {n : Nat} (hw : zW Z n) : sumB (hrZ Z n) 3 4 = sumB Z 3 4 + hrT Z n := by
  have e : sumB (hrZ Z n) 3 4 = sumB (tripZ (hrA Z n) 4) 3 4 := sumB_congr 4 (fun b hb => by unfold hrZ; rw [upd_n (by omega)])
  rw [e, trip_sum 4 (Nat.le_refl 4), sumB_congr (X := Z) (Y := hrA Z n) 4 (fun b hb => hrA_at hw (by omega) (by omega) (fun _ => ⟨by omega, by omega, by omega⟩) (fun _ _ => ⟨by omega, by omega⟩))]
  rfl
theorem hs_sum {Z : Nat → Int32} {n : Nat} (hw : zW Z n) : ∀ i, sumB (hsZ Z n i) 3 4 = sumB Z 3 4 + hsT Z n i
  | 0 => (Int32.add_zero _).symm
  | i + 1 => by
    show sumB (hrZ (hsZ Z n i) n) 3 4 = sumB Z 3 4 + (hsT Z n i + hrT (hsZ Z n i) n)
    rw [hr_sum (hsZ_zW hw i), hs_sum hw i, Int32.add_assoc]

