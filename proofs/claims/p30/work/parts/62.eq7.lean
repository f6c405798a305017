/-! CLASS AND REFERENCE: an hour goes by -/
theorem warm_at {Y : Nat → Int32} {n z : Nat} (hz : ∀ c, c < 4 → z ≠ 7 + 5 * c + 2 ∧ z ≠ 7 + 5 * c + 4) : ∀ i, i ≤ 4 → warmS Y n i z = Y z
  | 0, _ => rfl
  | i + 1, hi => by
    show warmZ (warmS Y n i) i n z = _
    unfold warmZ wr1
    rw [upd_n (hz i (by omega)).2, upd_n (hz i (by omega)).1, warm_at hz i (by omega)]
theorem warm_ge {Y : Nat → Int32} {n c : Nat} (hc : c < 4) : ∀ i, i ≤ c → warmS Y n i (7 + 5 * c + 2) = Y (7 + 5 * c + 2) ∧ warmS Y n i (7 + 5 * c + 4) = Y (7 + 5 * c + 4)
  | 0, _ => ⟨rfl, rfl⟩
  | i + 1, hi => by
    have ih := warm_ge (Y := Y) (n := n) hc i (by omega)
    show warmZ (warmS Y n i) i n (7 + 5 * c + 2) = _ ∧ warmZ (warmS Y n i) i n (7 + 5 * c + 4) = _
    unfold warmZ wr1
    rw [upd_n (by omega), upd_n (by omega), upd_n (by omega), upd_n (by omega)]
    exact ih
theorem dr_same {W Y : Nat → Int32} {n k b : Nat} (hw : zW Y n) (hk : k < n) (h : ∀ z, z < 39 + 8 * n → z ≠ 6 → (∀ k, z ≠ 39 + 8 * k + 6 ∧ z ≠ 39 + 8 * k + 7) → (∀ c, c < 4 → z ≠ 7 + 5 * c + 2 ∧ z ≠ 7 + 5 * c + 4) → W z = Y z) : drwB W k b = drwB Y k b ∧ rsn W k = rsn Y k :=
  have h10 := hw.1
  ⟨drwB_congr (h _ (by omega) (by omega) (fun _ => ⟨by omega, by omega⟩) (fun _ _ => ⟨by omega, by omega⟩)) (fun w hw6 => h _ (by omega) (by omega) (fun _ => ⟨by omega, by omega⟩) (fun _ _ => ⟨by omega, by omega⟩)) (fun q hq => h _ (by omega) (by omega) (fun _ => ⟨by omega, by omega⟩) (fun _ _ => ⟨by omega, by omega⟩)) (fun c hc => h _ (by omega) (by omega) (fun _ => ⟨by omega, by omega⟩) (fun _ _ => ⟨by omega, by omega⟩)) (skt_lt hw hk), rsn_congr (h _ (by omega) (by omega) (fun _ => ⟨by omega, by omega⟩) (fun _ _ => ⟨by omega, by omega⟩)) (fun w hw6 => h _ (by omega) (by omega) (fun _ => ⟨by omega, by omega⟩) (fun _ _ => ⟨by omega, by omega⟩)) (fun q hq => h _ (by omega) (by omega) (fun _ => ⟨by omega, by omega⟩) (fun _ _ => ⟨by omega, by omega⟩)) (fun c hc => h _ (by omega) (by omega) (fun _ => ⟨by omega, by omega⟩) (fun _ _ => ⟨by omega, by omega⟩)) (skt_lt hw hk)⟩
theorem car_same {W Y : Nat → Int32} {n b : Nat} (hw : zW Y n) (h : ∀ z, z < 39 + 8 * n → z ≠ 6 → (∀ k, z ≠ 39 + 8 * k + 6 ∧ z ≠ 39 + 8 * k + 7) → (∀ c, c < 4 → z ≠ 7 + 5 * c + 2 ∧ z ≠ 7 + 5 * c + 4) → W z = Y z) : carS W b n = carS Y b n :=
  carS_congr n (fun j hj => (dr_same hw hj h).1) (fun j hj => h _ (by omega) (by omega) (fun _ => ⟨by omega, by omega⟩) (fun _ _ => ⟨by omega, by omega⟩))
theorem warm_car {Y : Nat → Int32} {n b i : Nat} (hw : zW Y n) (hi : i ≤ 4) : carS (warmS Y n i) b n = carS Y b n := car_same hw (fun z _ _ _ h4 => warm_at h4 i hi)
theorem warm_wr1 {Y : Nat → Int32} {n b i : Nat} (hw : zW Y n) (hi : i < 4) : carS (wr1 (warmS Y n i) i n) b n = carS Y b n := car_same hw (fun z _ _ _ h4 => by unfold wr1; rw [upd_n (h4 i hi).1]; exact warm_at h4 i (by omega))
theorem warm_htZ {Y : Nat → Int32} {n i : Nat} (hw : zW Y n) (hi : i < 4) : htZ (warmS Y n i) i n = htZ Y i n := by
  unfold htZ
  rw [warm_car hw (by omega), (warm_ge hi i (Nat.le_refl i)).1, warm_at (z := 7 + 5 * i + 1) (fun _ _ => ⟨by omega, by omega⟩) i (by omega), warm_at (z := 7 + 5 * i + 0) (fun _ _ => ⟨by omega, by omega⟩) i (by omega), warm_at (z := 0) (fun _ _ => ⟨by omega, by omega⟩) i (by omega)]
theorem warm_ht {Y : Nat → Int32} {n c : Nat} (hw : zW Y n) (hc : c < 4) : ∀ i, i ≤ 4 → warmS Y n i (7 + 5 * c + 2) = if c < i then htZ Y c n else Y (7 + 5 * c + 2)
  | 0, _ => by rw [if_neg (Nat.not_lt_zero _)]; rfl
  | i + 1, hi => by
    show warmZ (warmS Y n i) i n (7 + 5 * c + 2) = _
    unfold warmZ wr1
    rw [upd_n (by omega)]
    by_cases e : c = i
    · subst e; rw [upd_s, if_pos (by omega), warm_htZ hw hc]
    · rw [upd_n (by omega), warm_ht hw hc i (by omega)]
      by_cases q : c < i
      · rw [if_pos q, if_pos (by omega)]
      · rw [if_neg q, if_neg (by omega)]
theorem warm_th {Y : Nat → Int32} {n c : Nat} (hw : zW Y n) (hc : c < 4) : ∀ i, i ≤ 4 → warmS Y n i (7 + 5 * c + 4) = if c < i then Y (7 + 5 * c + 4) + carS Y c n else Y (7 + 5 * c + 4)
  | 0, _ => by rw [if_neg (Nat.not_lt_zero _)]; rfl
  | i + 1, hi => by
    show warmZ (warmS Y n i) i n (7 + 5 * c + 4) = _
    unfold warmZ
    by_cases e : c = i
    · subst e; rw [upd_s, if_pos (by omega), warm_wr1 hw hc]; unfold wr1; rw [upd_n (by omega), (warm_ge hc c (Nat.le_refl c)).2]
    · rw [upd_n (by omega)]; unfold wr1; rw [upd_n (by omega), warm_th hw hc i (by omega)]
      by_cases q : c < i
      · rw [if_pos q, if_pos (by omega)]
      · rw [if_neg q, if_neg (by omega)]
theorem htZ_n {Y : Nat → Int32} {n b : Nat} (h : oI Y n) (ho : hOn Y) (hb : b < 4) : ∃ a, a ≤ 600 ∧ htZ Y b n = nI a := by
  obtain ⟨c, c1, c2, c3⟩ := oI_cool h
  obtain ⟨t, t1, t2⟩ := oI_heat h hb
  obtain ⟨d, d1, d2, d3⟩ := oI_bound h hb
  obtain ⟨r, r1, r2⟩ := car_n h b n (Nat.le_refl n)
  have h10 := h.1
  unfold htZ
  rw [c3, t2, d3, r2]
  refine htV_n (by omega) t1 c2 (by omega) (fun q => ?_)
  obtain ⟨a, a1, a2⟩ := ho b hb q
  have := nI_j (by omega) (by omega) (t2.symm.trans a2)
  omega
theorem warm_oI {Y : Nat → Int32} {n : Nat} (h : oI Y n) (ho : hOn Y) : ∀ i, i ≤ 4 → oI (warmS Y n i) n
  | 0, _ => h
  | i + 1, hi => by
    have h10 := h.1
    obtain ⟨a, a1, a2⟩ := htZ_n h ho (show i < 4 by omega)
    refine oI_upd (oI_upd (warm_oI h ho i (by omega)) (cOk_heat h10 (by omega) a1 ((warm_htZ (oI_zW h) (by omega)).trans a2))) (cOk_free (by omega) (by omega) (by omega) (fun _ _ => ⟨by omega, by omega, by omega, by omega⟩) (fun _ _ => ⟨by omega, by omega, by omega⟩) (fun _ _ => by omega))
theorem cHtA_at {P : Nat → Int32} {z : Nat} (hz : ∀ c, c < 4 → z ≠ 7 + 5 * c + 2) : ∀ i, i ≤ 4 → cHtA P i z = P z
  | 0, _ => rfl
  | i + 1, hi => by
    show cHt (cHtA P i) i _ z = _
    unfold cHt
    rw [upd_n (hz i (by omega)), cHtA_at hz i (by omega)]
theorem cHtA_ge {P : Nat → Int32} {c : Nat} (hc : c < 4) : ∀ i, i ≤ c → cHtA P i (7 + 5 * c + 2) = P (7 + 5 * c + 2)
  | 0, _ => rfl
  | i + 1, hi => by
    show cHt (cHtA P i) i _ (7 + 5 * c + 2) = _
    unfold cHt
    rw [upd_n (by omega), cHtA_ge hc i (by omega)]
theorem cHtA_ht {P : Nat → Int32} {c : Nat} (hc : c < 4) : ∀ i, i ≤ 4 → cHtA P i (7 + 5 * c + 2) = if c < i then htV (P (7 + 5 * c + 1)) (P (7 + 5 * c + 0)) (P (129 + c)) (P (7 + 5 * c + 2)) (P (0 + 0)) else P (7 + 5 * c + 2)
  | 0, _ => by rw [if_neg (Nat.not_lt_zero _)]; rfl
  | i + 1, hi => by
    show cHt (cHtA P i) i (cHtA P i (0 + 0)) (7 + 5 * c + 2) = _
    unfold cHt
    by_cases e : c = i
    · subst e
      rw [upd_s, if_pos (show c < c + 1 by omega)]
      unfold cTm htV
      rw [cHtA_at (z := 7 + 5 * c + 1) (fun _ _ => by omega) c (by omega), cHtA_at (z := 7 + 5 * c + 0) (fun _ _ => by omega) c (by omega), cHtA_at (z := 129 + c) (fun _ _ => by omega) c (by omega), cHtA_at (z := 0 + 0) (fun _ _ => by omega) c (by omega), cHtA_ge hc c (Nat.le_refl c)]
    · rw [upd_n (by omega), cHtA_ht hc i (by omega)]
      by_cases q : c < i
      · rw [if_pos q, if_pos (by omega)]
      · rw [if_neg q, if_neg (by omega)]
/-- the class's row P while the meters run, i stalls done; W: the reference's; Y: the row ahead of the heat -/
def relM (P W Y : Nat → Int32) (n i : Nat) : Prop :=
  (∀ z, z < 39 + 8 * n → (∀ c, c < 4 → z ≠ 7 + 5 * c + 4) → P z = W z) ∧ (∀ c, c < 4 → P (7 + 5 * c + 4) = Y (7 + 5 * c + 4) + carS Y c i) ∧ (∀ c, c < 4 → W (7 + 5 * c + 4) = Y (7 + 5 * c + 4) + carS Y c n) ∧ (∀ k, k < n → P (119 + k) = srcV Y k) ∧ (∀ z, z < 39 + 8 * n → z ≠ 6 → (∀ k, z ≠ 39 + 8 * k + 6 ∧ z ≠ 39 + 8 * k + 7) → (∀ c, c < 4 → z ≠ 7 + 5 * c + 2 ∧ z ≠ 7 + 5 * c + 4) → W z = Y z)
theorem heat_rel {P Y : Nat → Int32} {n : Nat} (h : relH P Y n) (hO : oI Y n) : relM (cHtA P 4) (warmS Y n 4) Y n 0 := by
  obtain ⟨e1, e2, e3⟩ := h
  have h10 := hO.1
  have hw := oI_zW hO
  refine ⟨fun z hz hc => ?_, fun c hc => ?_, fun c hc => ?_, fun k hk => ?_, fun z _ _ _ h4 => warm_at h4 4 (Nat.le_refl 4)⟩
  · by_cases q : ∀ c, c < 4 → z ≠ 7 + 5 * c + 2
    · rw [cHtA_at q 4 (Nat.le_refl 4), warm_at (fun c hc4 => ⟨q c hc4, hc c hc4⟩) 4 (Nat.le_refl 4)]
      exact e1 z hz
    · have hx : ∃ c, c < 4 ∧ z = 7 + 5 * c + 2 := by
        refine Classical.byContradiction (fun w => q (fun c hc4 e => w ⟨c, hc4, e⟩))
      obtain ⟨c, hc4, rfl⟩ := hx
      rw [cHtA_ht hc4 4 (Nat.le_refl 4), warm_ht hw hc4 4 (Nat.le_refl 4), if_pos hc4, if_pos hc4, e3 c hc4, e1 _ (show 7 + 5 * c + 1 < 39 + 8 * n by omega), e1 _ (show 7 + 5 * c + 0 < 39 + 8 * n by omega), e1 _ (show 7 + 5 * c + 2 < 39 + 8 * n by omega), e1 _ (show 0 + 0 < 39 + 8 * n by omega)]
      obtain ⟨d, d1, d2, d3⟩ := oI_cool hO
      obtain ⟨t, t1, t2⟩ := oI_heat hO hc4
      obtain ⟨a, a1, a2, a3⟩ := oI_bound hO hc4
      obtain ⟨r, r1, r2⟩ := car_n hO c n (Nat.le_refl n)
      unfold htZ
      show htV (Y (7 + 5 * c + 1)) (Y (7 + 5 * c + 0)) (carS Y c n) (Y (7 + 5 * c + 2)) (Y 0) = _
      rw [d3, t2, a3, r2]
      exact htV_eq ((oI_bW hO).2.1 c hc4) a2 (by omega) t1 d2
  · rw [cHtA_at (fun _ _ => by omega) 4 (Nat.le_refl 4), e1 _ (by omega)]
    show _ = _ + (0 : Int32)
    rw [Int32.add_zero]
  · rw [warm_th hw hc 4 (Nat.le_refl 4), if_pos hc]
  · rw [cHtA_at (fun _ _ => by omega) 4 (Nat.le_refl 4)]; exact e2 k hk
theorem cWant_eq {P Y : Nat → Int32} {k : Nat} (h1 : P (39 + 8 * k + 1) = Y (39 + 8 * k + 1)) (h2 : P (39 + 8 * k + 2) = Y (39 + 8 * k + 2)) : cWant P k (hrD Y) = wantB Y k := by
  rw [← want_eq (M := Y) (Z := Y) (n := k + 1) eqZ_rfl (by omega)]
  unfold cWant
  rw [h1, h2]
theorem rsn_w {Z : Nat → Int32} {k : Nat} : (wantB Z k = true ↔ rsn Z k ≠ 1) := by
  unfold rsn
  cases wantB Z k
  · simp
  · rw [if_neg (by simp)]
    refine ⟨fun _ => ?_, fun _ => rfl⟩
    repeat' split
    all_goals omega
theorem met_step {P W Y : Nat → Int32} {n i : Nat} (hO : oI Y n) (hi : i < n) (h : relM P W Y n i) : relM (cMet P (hrD Y) i) (meterZ W i) Y n (i + 1) := by
  obtain ⟨e1, e2, e3, e4, e5⟩ := h
  have h10 := hO.1
  have hw := oI_zW hO
  have hb := oI_bW hO
  have hr : rsn W i = rsn Y i := (dr_same (b := 0) hw hi e5).2
  have hst : ∀ z, z < 39 + 8 * n → z ≠ 6 → (∀ k, z ≠ 39 + 8 * k + 6 ∧ z ≠ 39 + 8 * k + 7) → (∀ c, c < 4 → z ≠ 7 + 5 * c + 2 ∧ z ≠ 7 + 5 * c + 4) → meterZ W i z = Y z := fun z h0 h1 h2 h3 => by
    unfold meterZ mt2 mt1
    rw [upd_n h1, upd_n (h2 i).2, upd_n (h2 i).1]; exact e5 z h0 h1 h2 h3
  have hth : ∀ c, c < 4 → meterZ W i (7 + 5 * c + 4) = Y (7 + 5 * c + 4) + carS Y c n := fun c hc => by
    unfold meterZ mt2 mt1
    rw [upd_n (by omega), upd_n (by omega), upd_n (by omega)]; exact e3 c hc
  have hload : P (39 + 8 * i + 0) = Y (39 + 8 * i + 0) := (e1 _ (by omega) (fun _ _ => by omega)).trans (e5 _ (by omega) (by omega) (fun _ => ⟨by omega, by omega⟩) (fun _ _ => ⟨by omega, by omega⟩))
  have hcs : ∀ c, carS Y c (i + 1) = carS Y c i + (if drwB Y i c = true then Y (39 + 8 * i + 0) else 0) := fun c => rfl
  by_cases c0 : rsn Y i = 0
  · have hs : P (119 + i) = nI (brk Y (skt Y i)) := (e4 i hi).trans (if_pos c0)
    have hbk := brk_lt (Z := Y) (skt_lt hw hi (rsn0_at c0))
    have hdr : ∀ c, c < 4 → (drwB Y i c = true ↔ c = brk Y (skt Y i)) := fun c hc => by
      rw [← srcV_iff hw hb hi hc, srcV, if_pos c0]
      exact ⟨fun q => (nI_j (by omega) (by omega) q).symm, fun q => by rw [q]⟩
    generalize brk Y (skt Y i) = b0 at hs hbk hdr
    have hm : cMet P (hrD Y) i = cm3 P i b0 := by
      unfold cMet
      rw [hs, if_neg (nI_nm1 (by omega)), nI_iN (v := nI b0) (a := b0) (by omega) rfl]
    rw [hm]
    refine ⟨fun z hz hc => ?_, fun c hc => ?_, hth, fun k hk => ?_, hst⟩
    · have hc0 := hc b0 hbk
      by_cases q6 : z = 6
      · subst q6
        unfold meterZ cm3
        rw [upd_s, upd_s, hr, if_pos c0]
        unfold mt2 mt1 cm2 cm1
        rw [upd_n (by omega), upd_n (by omega), upd_n (by omega), upd_n (by omega), e1 6 (by omega) (fun _ _ => by omega)]
      · by_cases q7 : z = 39 + 8 * i + 7
        · subst q7
          unfold meterZ cm3 mt2
          rw [upd_n (by omega), upd_n (by omega), upd_s, hr, if_neg (by omega), nI_0, Int32.add_zero]
          unfold mt1 cm2 cm1
          rw [upd_n (by omega), upd_n (by omega), upd_n (by omega)]
          exact e1 _ hz hc
        · by_cases q8 : z = 39 + 8 * i + 6
          · subst q8
            unfold meterZ cm3 mt2 cm2 mt1 cm1
            rw [upd_n (by omega), upd_n hc0, upd_s, upd_n (by omega), upd_n (by omega), upd_s, hr, if_pos c0, e1 _ hz hc, e1 _ (show 39 + 8 * i + 0 < 39 + 8 * n by omega) (fun _ _ => by omega)]
          · unfold meterZ cm3 mt2 cm2 mt1 cm1
            rw [upd_n q6, upd_n hc0, upd_n q8, upd_n q6, upd_n q7, upd_n q8]
            exact e1 _ hz hc
    · rw [hcs]
      by_cases q : c = b0
      · rw [if_pos ((hdr c hc).mpr q), ← Int32.add_assoc, ← e2 c hc, ← hload, q]
        unfold cm3
        rw [upd_n (by omega)]
        unfold cm2
        rw [upd_s]
        unfold cm1
        rw [upd_n (by omega), upd_n (by omega)]
      · rw [if_neg (fun w => q ((hdr c hc).mp w)), Int32.add_zero]
        unfold cm3 cm2 cm1
        rw [upd_n (by omega), upd_n (by omega), upd_n (by omega)]
        exact e2 c hc
    · unfold cm3 cm2 cm1
      rw [upd_n (by omega), upd_n (by omega), upd_n (by omega)]
      exact e4 k hk
  · have hs : P (119 + i) = -1 := (e4 i hi).trans (if_neg c0)
    have hno : ∀ c, ¬ drwB Y i c = true := fun c q => c0 (by unfold drwB at q; rw [Bool.and_eq_true, decide_eq_true_eq] at q; exact q.2)
    have hwa : cWant P i (hrD Y) = wantB Y i := cWant_eq ((e1 _ (by omega) (fun _ _ => by omega)).trans (e5 _ (by omega) (by omega) (fun _ => ⟨by omega, by omega⟩) (fun _ _ => ⟨by omega, by omega⟩))) ((e1 _ (by omega) (fun _ _ => by omega)).trans (e5 _ (by omega) (by omega) (fun _ => ⟨by omega, by omega⟩) (fun _ _ => ⟨by omega, by omega⟩)))
    have hrn := rsn_w (Z := Y) (k := i)
    have hm : cMet P (hrD Y) i = if wantB Y i = true then upd P (39 + 8 * i + 7) (P (39 + 8 * i + 7) + nI 1) else P := by
      unfold cMet
      rw [if_pos hs, hwa]
    have hz1 : ∀ z, z ≠ 39 + 8 * i + 7 → cMet P (hrD Y) i z = P z := fun z hz => by
      rw [hm]
      by_cases q : wantB Y i = true
      · rw [if_pos q, upd_n hz]
      · rw [if_neg q]
    refine ⟨fun z hz hc => ?_, fun c hc => ?_, hth, fun k hk => ?_, hst⟩
    · by_cases q7 : z = 39 + 8 * i + 7
      · subst q7
        rw [hm]
        unfold meterZ mt2
        rw [upd_n (by omega), upd_s, hr]
        unfold mt1
        rw [upd_n (by omega), ← e1 _ hz hc]
        by_cases q : wantB Y i = true
        · have := hrn.mp q
          rw [if_pos q, upd_s, if_pos (by omega)]
        · rw [if_neg q, if_neg (fun w => q (hrn.mpr (by omega))), nI_0, Int32.add_zero]
      · rw [hz1 z q7, e1 z hz hc]
        unfold meterZ mt2 mt1
        by_cases q6 : z = 6
        · subst q6
          rw [upd_s, upd_n (by omega), upd_n (by omega), hr, if_neg c0, nI_0, Int32.add_zero]
        · by_cases q8 : z = 39 + 8 * i + 6
          · subst q8
            rw [upd_n (by omega), upd_n (by omega), upd_s, hr, if_neg c0, nI_0, Int32.add_zero]
          · rw [upd_n q6, upd_n q7, upd_n q8]
    · rw [hz1 _ (by omega), hcs, if_neg (hno c), Int32.add_zero]; exact e2 c hc
    · rw [hz1 _ (by omega)]; exact e4 k hk

