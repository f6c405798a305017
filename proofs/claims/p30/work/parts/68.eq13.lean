/-! THE REFERENCE: two rows that differ in a breaker's bound and heat alone -/
def eqx (X Y : Nat → Int32) (n b : Nat) : Prop := zW X n ∧ zW Y n ∧ ∀ z, z < 39 + 8 * n → z ≠ 7 + 5 * b + 0 → z ≠ 7 + 5 * b + 2 → X z = Y z
theorem eqx_upd {X Y : Nat → Int32} {n b i : Nat} {v : Int32} (h : eqx X Y n b) (hx : zW (upd X i v) n) (hy : zW (upd Y i v) n) : eqx (upd X i v) (upd Y i v) n b := by
  refine ⟨hx, hy, fun z hz h0 h2 => ?_⟩
  by_cases q : z = i
  · subst q; rw [upd_s, upd_s]
  · rw [upd_n q, upd_n q]; exact h.2.2 z hz h0 h2
theorem eqx_ht {X Y : Nat → Int32} {n b : Nat} {v w : Int32} (h : eqx X Y n b) (hx : zW (upd X (7 + 5 * b + 2) v) n) (hy : zW (upd Y (7 + 5 * b + 2) w) n) : eqx (upd X (7 + 5 * b + 2) v) (upd Y (7 + 5 * b + 2) w) n b := by
  refine ⟨hx, hy, fun z hz h0 h2 => ?_⟩
  rw [upd_n h2, upd_n h2]; exact h.2.2 z hz h0 h2
theorem eqx_dr {X Y : Nat → Int32} {n b k : Nat} (h : eqx X Y n b) (hb : b < 4) (hk : k < n) : rsn X k = rsn Y k ∧ ∀ c, drwB X k c = drwB Y k c := by
  have h10 := h.1.1
  have h4 := h.2.2
  exact ⟨rsn_congr (h4 _ (by omega) (by omega) (by omega)) (fun w hw => h4 _ (by omega) (by omega) (by omega)) (fun q hq => h4 _ (by omega) (by omega) (by omega)) (fun b hb => h4 _ (by omega) (by omega) (by omega)) (skt_lt h.2.1 hk), fun c => drwB_congr (h4 _ (by omega) (by omega) (by omega)) (fun w hw => h4 _ (by omega) (by omega) (by omega)) (fun q hq => h4 _ (by omega) (by omega) (by omega)) (fun b hb => h4 _ (by omega) (by omega) (by omega)) (skt_lt h.2.1 hk)⟩
theorem eqx_car {X Y : Nat → Int32} {n b : Nat} (h : eqx X Y n b) (hb : b < 4) (c : Nat) : carS X c n = carS Y c n :=
  carS_congr n (fun j hj => (eqx_dr h hb hj).2 c) (fun j hj => h.2.2 _ (by omega) (by omega) (by omega))
theorem eqx_wm {X Y : Nat → Int32} {n b c : Nat} (h : eqx X Y n b) (hb : b < 4) (hc : c < 4) : eqx (warmZ X c n) (warmZ Y c n) n b := by
  have zx := warmZ_zW h.1 hc
  have zy := warmZ_zW h.2.1 hc
  have z1 := wr1_zW h.1 hc
  have z2 := wr1_zW h.2.1 hc
  have h4 := h.2.2
  have h1 : eqx (wr1 X c n) (wr1 Y c n) n b := by
    unfold wr1 at z1 z2 ⊢
    by_cases e : c = b
    · subst e; exact eqx_ht h z1 z2
    · have eh : htZ X c n = htZ Y c n := by
        unfold htZ
        rw [eqx_car h hb c, h4 (7 + 5 * c + 1) (by omega) (by omega) (by omega), h4 (7 + 5 * c + 0) (by omega) (by omega) (by omega), h4 (7 + 5 * c + 2) (by omega) (by omega) (by omega), h4 0 (by omega) (by omega) (by omega)]
      rw [eh] at z1 ⊢
      exact eqx_upd h z1 z2
  unfold warmZ at zx zy ⊢
  have e : wr1 X c n (7 + 5 * c + 4) + carS (wr1 X c n) c n = wr1 Y c n (7 + 5 * c + 4) + carS (wr1 Y c n) c n := by
    rw [eqx_car h1 hb c, h1.2.2 (7 + 5 * c + 4) (by omega) (by omega) (by omega)]
  rw [e] at zx ⊢
  exact eqx_upd h1 zx zy
theorem eqx_wmS {X Y : Nat → Int32} {n b : Nat} (h : eqx X Y n b) (hb : b < 4) : ∀ i, i ≤ 4 → eqx (warmS X n i) (warmS Y n i) n b
  | 0, _ => h
  | i + 1, hi => eqx_wm (eqx_wmS h hb i (by omega)) hb (by omega)
theorem eqx_mt {X Y : Nat → Int32} {n b k : Nat} (h : eqx X Y n b) (hb : b < 4) (hk : k < n) : eqx (meterZ X k) (meterZ Y k) n b := by
  have zx := meterZ_zW (k := k) h.1
  have zy := meterZ_zW (k := k) h.2.1
  have hr := (eqx_dr h hb hk).1
  have h10 := h.1.1
  have h4 := h.2.2
  have h1 : eqx (mt1 X k) (mt1 Y k) n b := by
    unfold mt1
    rw [hr, h4 (39 + 8 * k + 6) (by omega) (by omega) (by omega), h4 (39 + 8 * k + 0) (by omega) (by omega) (by omega)]
    exact eqx_upd h (zW_upd h.1 (by omega) (fun _ _ => by omega) (fun _ _ => by omega)) (zW_upd h.2.1 (by omega) (fun _ _ => by omega) (fun _ _ => by omega))
  have h2 : eqx (mt2 X k) (mt2 Y k) n b := by
    unfold mt2
    rw [hr, h1.2.2 (39 + 8 * k + 7) (by omega) (by omega) (by omega)]
    exact eqx_upd h1 (zW_upd h1.1 (by omega) (fun _ _ => by omega) (fun _ _ => by omega)) (zW_upd h1.2.1 (by omega) (fun _ _ => by omega) (fun _ _ => by omega))
  unfold meterZ at zx zy ⊢
  rw [hr, h2.2.2 6 (by omega) (by omega) (by omega)] at zx
  rw [hr, h2.2.2 6 (by omega) (by omega) (by omega)]
  exact eqx_upd h2 zx zy
theorem eqx_mtS {X Y : Nat → Int32} {n b : Nat} (h : eqx X Y n b) (hb : b < 4) : ∀ i, i ≤ n → eqx (metS X i) (metS Y i) n b
  | 0, _ => h
  | i + 1, hi => eqx_mt (eqx_mtS h hb i (by omega)) hb (by omega)
theorem eqx_tr {X Y : Nat → Int32} {n b : Nat} (h : eqx X Y n b) (hb : b < 4) (tx : trC X b = false) (ty : trC Y b = false) : ∀ i, i ≤ 4 → eqx (tripZ X i) (tripZ Y i) n b
  | 0, _ => h
  | i + 1, hi => by
    have ih := eqx_tr h hb tx ty i (by omega)
    have h4 := ih.2.2
    show eqx (if trC (tripZ X i) i = true then tr1 (tripZ X i) i else tripZ X i) (if trC (tripZ Y i) i = true then tr1 (tripZ Y i) i else tripZ Y i) n b
    by_cases e : i = b
    · subst e
      rw [trC_ge hb (Nat.le_refl i), trC_ge hb (Nat.le_refl i), tx, ty, if_neg Bool.false_ne_true, if_neg Bool.false_ne_true]
      exact ih
    · have et : trC (tripZ X i) i = trC (tripZ Y i) i := by
        unfold trC
        rw [h4 (7 + 5 * i + 1) (by omega) (by omega) (by omega), h4 (7 + 5 * i + 2) (by omega) (by omega) (by omega)]
      rw [et]
      by_cases c : trC (tripZ Y i) i = true
      · rw [if_pos c, if_pos c]
        have zx := tr1_zW (b := i) ih.1 (by omega)
        have zy := tr1_zW (b := i) ih.2.1 (by omega)
        have h1 := eqx_upd (i := 7 + 5 * i + 1) (v := nI 0) ih (zW_upd ih.1 (by omega) (fun _ _ => by omega) (fun _ _ => by omega)) (zW_upd ih.2.1 (by omega) (fun _ _ => by omega) (fun _ _ => by omega))
        unfold tr1 at zx zy ⊢
        rw [h1.2.2 (7 + 5 * i + 3) (by omega) (by omega) (by omega)] at zx ⊢
        exact eqx_upd h1 zx zy
      · rw [if_neg c, if_neg c]; exact ih
/-- the one with the smaller bound is no cooler -/
def mon (X Y : Nat → Int32) (n b : Nat) : Prop := oI X n ∧ oI Y n ∧ hOn X ∧ hOn Y ∧ eqx X Y n b ∧ ¬ Y 1 = nI 1 ∧ ∃ u v x y, X (7 + 5 * b + 0) = nI u ∧ Y (7 + 5 * b + 0) = nI v ∧ u ≤ v ∧ v ≤ 999 ∧ X (7 + 5 * b + 2) = nI x ∧ Y (7 + 5 * b + 2) = nI y ∧ y ≤ x ∧ x ≤ 600
theorem htZ_N {Z : Nat → Int32} {n b bd cr ht c : Nat} (h1 : Z (7 + 5 * b + 0) = nI bd) (h2 : carS Z b n = nI cr) (h3 : Z (7 + 5 * b + 2) = nI ht) (h4 : Z 0 = nI c) (k1 : bd ≤ 999) (k2 : cr ≤ 5000) (k3 : ht ≤ 600) (k4 : c ≤ 9) : htZ Z b n = nI (if Z (7 + 5 * b + 1) = nI 1 ∧ bd < cr then ht + (cr - bd) / 10 + 1 else ht - c) := by
  unfold htZ
  rw [h1, h2, h3, h4]
  have e : (0 : Int32) < nI cr - nI bd ↔ bd < cr := by
    rw [← nI_0]
    by_cases q : bd < cr
    · rw [nI_sb (by omega)]; exact ⟨fun _ => q, fun _ => nI_lt (by omega) (by omega)⟩
    · exact ⟨fun w => absurd w (nI_neg (by omega) (by omega)), fun w => absurd w q⟩
  by_cases q : Z (7 + 5 * b + 1) = nI 1 ∧ bd < cr
  · rw [if_pos q, if_pos ⟨q.1, e.mpr q.2⟩, nI_sb (by omega), pk_div (by omega) (by omega) (by omega), nI_add, nI_add]
  · rw [if_neg q, if_neg (fun w => q ⟨w.1, e.mp w.2⟩)]
    by_cases q2 : ht < c
    · rw [if_pos (nI_lt q2 (by omega)), show ht - c = 0 by omega]
    · rw [if_neg (fun w => q2 ((nI_ltI (by omega) (by omega)).mp w)), nI_sb (by omega)]
theorem mon_hr {X Y : Nat → Int32} {n b : Nat} (h : mon X Y n b) (hb : b < 4) (hon : hrZ X n (7 + 5 * b + 1) = nI 1) : mon (hrZ X n) (hrZ Y n) n b := by
  obtain ⟨h1, h2, h3, h4, h5, h6, u, v, x, y, e1, e2, e3, e4, e5, e6, e7, e8⟩ := h
  have h10 := h1.1
  have hwx := oI_zW h1
  have hwy := oI_zW h2
  have s1 : ¬ X 1 = nI 1 := by rw [h5.2.2 1 (by omega) (by omega) (by omega)]; exact h6
  have dx := shdS_off (n := n) s1 4
  have dy := shdS_off (n := n) h6 4
  have ax : hrA X n = metS (warmS X n 4) n := by unfold hrA; rw [dx]
  have ay : hrA Y n = metS (warmS Y n 4) n := by unfold hrA; rw [dy]
  have hA : eqx (hrA X n) (hrA Y n) n b := by rw [ax, ay]; exact eqx_mtS (eqx_wmS h5 hb 4 (Nat.le_refl 4)) hb n (Nat.le_refl n)
  obtain ⟨c, c1, c2, c3⟩ := oI_cool h2
  obtain ⟨r, r1, r2⟩ := car_n h2 b n (Nat.le_refl n)
  have hxc : carS X b n = nI r := (eqx_car h5 hb b).trans r2
  have hx0 : X 0 = nI c := (h5.2.2 0 (by omega) (by omega) (by omega)).trans c3
  have hxo : X (7 + 5 * b + 1) = Y (7 + 5 * b + 1) := h5.2.2 _ (by omega) (by omega) (by omega)
  have tX := htZ_N (n := n) e1 hxc e5 hx0 (by omega) (by omega) e8 c2
  have tY := htZ_N (n := n) e2 r2 e6 c3 e4 (by omega) (by omega) c2
  rw [hxo] at tX
  have hX' := hr_oI h1 h3
  have hY' := hr_oI h2 h4
  have gX : hrZ X n (7 + 5 * b + 2) = htZ X b n := by rw [heat_hrZ hwx hb, dx]
  have gY : hrZ Y n (7 + 5 * b + 2) = htZ Y b n := by rw [heat_hrZ hwy hb, dy]
  have aX : hrA X n (7 + 5 * b + 2) = htZ X b n := by rw [heat_hrA hwx hb, dx]
  have aY : hrA Y n (7 + 5 * b + 2) = htZ Y b n := by rw [heat_hrA hwy hb, dy]
  have oX : hrA X n (7 + 5 * b + 1) = X (7 + 5 * b + 1) := hrA_at hwx (by omega) (by omega) (fun _ => ⟨by omega, by omega, by omega⟩) (fun _ _ => ⟨by omega, by omega⟩)
  have oY : hrA Y n (7 + 5 * b + 1) = Y (7 + 5 * b + 1) := hrA_at hwy (by omega) (by omega) (fun _ => ⟨by omega, by omega, by omega⟩) (fun _ _ => ⟨by omega, by omega⟩)
  obtain ⟨x', x1, x2⟩ := oI_heat hX' hb
  obtain ⟨y', y1, y2⟩ := oI_heat hY' hb
  have le : y' ≤ x' := by
    have w1 := gX.symm.trans x2
    have w2 := gY.symm.trans y2
    rw [tX] at w1
    rw [tY] at w2
    have w3 := nI_j (by split <;> omega) (by omega) w1
    have w4 := nI_j (by split <;> omega) (by omega) w2
    rw [← w3, ← w4]
    by_cases qo : Y (7 + 5 * b + 1) = nI 1
    · by_cases qv : v < r
      · rw [if_pos ⟨qo, qv⟩, if_pos ⟨qo, by omega⟩]; omega
      · rw [if_neg (fun w => qv w.2)]; split <;> omega
    · rw [if_neg (fun w => qo w.1), if_neg (fun w => qo w.1)]; omega
  have hon2 := hon
  unfold hrZ at hon2
  rw [upd_n (by omega), (trip_on hb 4 (Nat.le_refl 4)).1] at hon2
  have tx : trC (hrA X n) b = false := by
    by_cases q : trC (hrA X n) b = true
    · rw [if_pos ⟨hb, q⟩] at hon2; exact absurd hon2 (by decide)
    · simpa using q
  have ox1 : X (7 + 5 * b + 1) = nI 1 := by
    rw [if_neg (fun q => by rw [tx] at q; exact Bool.false_ne_true q.2), oX] at hon2
    exact hon2
  have ty : trC (hrA Y n) b = false := by
    have tx2 := tx
    unfold trC at tx2 ⊢
    rw [oX, ox1, aX, ← gX, x2, decide_eq_true (rfl : nI 1 = nI 1), Bool.true_and, decide_eq_false_iff_not] at tx2
    rw [oY, ← hxo, ox1, aY, ← gY, y2, decide_eq_true (rfl : nI 1 = nI 1), Bool.true_and, decide_eq_false_iff_not]
    intro q
    have := (nI_ltI (a := 9) (b := y') (by omega) (by omega)).mp q
    exact tx2 (nI_lt (by omega) (by omega))
  have hT := eqx_tr hA hb tx ty 4 (Nat.le_refl 4)
  have zx := hrZ_zW hwx
  have zy := hrZ_zW hwy
  have hZ : eqx (hrZ X n) (hrZ Y n) n b := by
    unfold hrZ at zx zy ⊢
    rw [hT.2.2 3 (by omega) (by omega) (by omega)] at zx ⊢
    exact eqx_upd hT zx zy
  have hb0 : ∀ V : Nat → Int32, zW V n → hrZ V n (7 + 5 * b + 0) = V (7 + 5 * b + 0) := fun V hV => hr_at hV (by omega) (by omega) (by omega) (fun _ => ⟨by omega, by omega, by omega⟩) (fun _ _ => ⟨by omega, by omega, by omega, by omega⟩)
  refine ⟨hX', hY', hr_hOn h1 h3, hr_hOn h2 h4, hZ, ?_, u, v, x', y', (hb0 X hwx).trans e1, (hb0 Y hwy).trans e2, e3, e4, x2, y2, le, x1⟩
  rw [hr_at hwy (by omega) (by omega) (by omega) (fun _ => ⟨by omega, by omega, by omega⟩) (fun _ _ => ⟨by omega, by omega, by omega, by omega⟩)]
  exact h6
theorem mon_hs {X Y : Nat → Int32} {n b : Nat} (h : mon X Y n b) (hb : b < 4) : ∀ i, hsZ X n i (7 + 5 * b + 1) = nI 1 → mon (hsZ X n i) (hsZ Y n i) n b
  | 0, _ => h
  | i + 1, hi => mon_hr (mon_hs h hb i (on_48 (oI_zW h.1) hb 1 i hi)) hb hi
/-- with a greater bound no sooner -/
theorem lw_mono {Z : Nat → Int32} {n b u v : Nat} (hO : oI Z n) (ho : hOn Z) (hb : b < 4) (hu : 10 ≤ u) (huv : u ≤ v) (hv : v ≤ 999) (h : lwF (lsY Z b u) n b 49 0 = true) : lwF (lsY Z b v) n b 49 0 = true := by
  have h10 := hO.1
  have yu := lsY_oI hO hb hu (show u ≤ 999 by omega)
  have yv := lsY_oI hO hb (show 10 ≤ v by omega) hv
  rw [lw_48 (oI_zW yv) hb 49 0 (by omega) (by omega)]
  rw [lw_48 (oI_zW yu) hb 49 0 (by omega) (by omega)] at h
  have cells : ∀ w z, z ≠ 7 + 5 * b + 0 → z ≠ 7 + 5 * b + 1 → z ≠ 7 + 5 * b + 2 → lsY Z b w z = Z z := fun w z p0 p1 p2 => by unfold lsY pon; rw [upd_n p2, upd_n p1, upd_n p0]
  have c1 : ∀ w, lsY Z b w (7 + 5 * b + 1) = nI 1 := fun w => by unfold lsY pon; rw [upd_n (by omega), upd_s]
  have c2 : ∀ w, lsY Z b w (7 + 5 * b + 2) = nI 0 := fun w => by unfold lsY pon; rw [upd_s]
  have c0 : ∀ w, lsY Z b w (7 + 5 * b + 0) = nI w := fun w => by unfold lsY pon; rw [upd_n (by omega), upd_n (by omega), upd_s]
  by_cases q : Z 1 = nI 1
  · exact (cold_hs yv (lsY_hOn ho hb) hb ((cells v 1 (by omega) (by omega) (by omega)).trans q) (c1 v) (c2 v) 48).1
  · have hm : mon (lsY Z b u) (lsY Z b v) n b := by
      refine ⟨yu, yv, lsY_hOn ho hb, lsY_hOn ho hb, ⟨oI_zW yu, oI_zW yv, fun z hz p0 p2 => ?_⟩, by rw [cells v 1 (by omega) (by omega) (by omega)]; exact q, u, v, 0, 0, c0 u, c0 v, huv, hv, c2 u, c2 v, Nat.le_refl 0, by omega⟩
      by_cases p1 : z = 7 + 5 * b + 1
      · subst p1; rw [c1, c1]
      · rw [cells u z p0 p1 p2, cells v z p0 p1 p2]
    have := mon_hs hm hb 48 h
    rw [← this.2.2.2.2.1.2.2 _ (by omega) (by omega) (by omega)]
    exact h
/-- the class's search, bit by bit, against the reference's, one by one -/
theorem wt_lw {M Y : Nat → Int32} {n b : Nat} (h : eqZ M Y n) (hO : oI Y n) (ho : hOn Y) (hb : b < 4) : ∀ f i, cWt M n b f i (7 + 5 * b + 1) = 0 ↔ lwF Y n b f i = false
  | f, i => by
    obtain ⟨e1, e2, _⟩ := hs_all h hO ho i
    have ec := e1 _ (show 7 + 5 * b + 1 < 39 + 8 * n by omega)
    have d : (hsZ Y n i (7 + 5 * b + 1) = 0) ↔ ¬ hsZ Y n i (7 + 5 * b + 1) = nI 1 := by
      rcases (oI_bW e2).2.1 b hb with q | q <;> rw [q] <;> decide
    match f with
    | 0 =>
      show cHs M n i (7 + 5 * b + 1) = 0 ↔ decide (hsZ Y n i (7 + 5 * b + 1) = nI 1) = false
      rw [ec, decide_eq_false_iff_not]; exact d
    | f + 1 =>
      show (if i < 48 ∧ ¬ cHs M n i (7 + 5 * b + 1) = 0 then cWt M n b f (i + 1) else cHs M n i) (7 + 5 * b + 1) = 0 ↔ (if i < 48 then (if hsZ Y n i (7 + 5 * b + 1) = nI 1 then lwF Y n b f (i + 1) else false) else decide (hsZ Y n i (7 + 5 * b + 1) = nI 1)) = false
      rw [ec]
      by_cases c : i < 48
      · by_cases q : hsZ Y n i (7 + 5 * b + 1) = nI 1
        · rw [if_pos ⟨c, fun w => (d.mp w) q⟩, if_pos c, if_pos q]; exact wt_lw h hO ho hb f (i + 1)
        · rw [if_neg (fun w => w.2 (d.mpr q)), if_pos c, if_neg q, ec]
          exact ⟨fun _ => rfl, fun _ => d.mpr q⟩
      · rw [if_neg (fun w => c w.1), if_neg c, ec, decide_eq_false_iff_not]; exact d
termination_by f => f
theorem lbY_eq {T M Z : Nat → Int32} {n b v : Nat} (h : eqZ M Z n) : eqZ (upd (cPon (cCp T M n) b) (7 + 5 * b + 0) (nI v)) (lsY Z b v) n := by
  intro z hz
  have hc := cp_eq (T := T) h
  unfold cPon lsY pon
  by_cases p0 : z = 7 + 5 * b + 0
  · subst p0; rw [upd_s, upd_n (by omega), upd_n (by omega), upd_s]
  · rw [upd_n p0]
    by_cases p2 : z = 7 + 5 * b + 2
    · subst p2; rw [upd_s, upd_s]
    · rw [upd_n p2, upd_n p2]
      by_cases p1 : z = 7 + 5 * b + 1
      · subst p1; rw [upd_s, upd_s]
      · rw [upd_n p1, upd_n p1, upd_n p0]; exact hc z hz
/-- with this bound it would trip -/
def wTr (Z : Nat → Int32) (n b v : Nat) : Prop := lwF (lsY Z b v) n b 49 0 = false
theorem lb_inv {M Z : Nat → Int32} {n b : Nat} (h : eqZ M Z n) (hO : oI Z n) (ho : hOn Z) (hb : b < 4) : ∀ k f tr T, k + 1 ≤ f → 9 ≤ tr → tr ≤ 999 → (tr = 9 ∨ wTr Z n b tr) → (∀ v, tr + 2 ^ (k + 1) ≤ v → v ≤ 999 → ¬ wTr Z n b v) → 9 ≤ (cLb M n b f tr (2 ^ k) T).1 ∧ (cLb M n b f tr (2 ^ k) T).1 ≤ 999 ∧ ((cLb M n b f tr (2 ^ k) T).1 = 9 ∨ wTr Z n b (cLb M n b f tr (2 ^ k) T).1) ∧ ∀ v, (cLb M n b f tr (2 ^ k) T).1 + 1 ≤ v → v ≤ 999 → ¬ wTr Z n b v
  | k, f, tr, T, hf, t9, t999, ht, hv => by
    have hp : 0 < 2 ^ k := Nat.two_pow_pos k
    have hp2 : 2 ^ (k + 1) = 2 * 2 ^ k := by rw [Nat.pow_succ, Nat.mul_comm]
    have step : ∀ tr' T', 9 ≤ tr' → tr' ≤ 999 → (tr' = 9 ∨ wTr Z n b tr') → (∀ v, tr' + 2 ^ k ≤ v → v ≤ 999 → ¬ wTr Z n b v) → 9 ≤ (cLb M n b (f - 1) tr' (2 ^ k / 2) T').1 ∧ (cLb M n b (f - 1) tr' (2 ^ k / 2) T').1 ≤ 999 ∧ ((cLb M n b (f - 1) tr' (2 ^ k / 2) T').1 = 9 ∨ wTr Z n b (cLb M n b (f - 1) tr' (2 ^ k / 2) T').1) ∧ ∀ v, (cLb M n b (f - 1) tr' (2 ^ k / 2) T').1 + 1 ≤ v → v ≤ 999 → ¬ wTr Z n b v := by
      intro tr' T' a1 a2 a3 a4
      match k with
      | 0 =>
        rw [show 2 ^ 0 / 2 = 0 from rfl, cLb_0]
        exact ⟨a1, a2, a3, fun v q1 q2 => a4 v (by rw [Nat.pow_zero]; exact q1) q2⟩
      | k + 1 =>
        rw [show 2 ^ (k + 1) / 2 = 2 ^ k by rw [Nat.pow_succ]; omega]
        exact lb_inv h hO ho hb k (f - 1) tr' T' (by omega) a1 a2 a3 a4
    by_cases c : tr + 2 ^ k ≤ 999
    · have hw : cLbW M n b tr (2 ^ k) T (7 + 5 * b + 1) = 0 ↔ wTr Z n b (tr + 2 ^ k) := wt_lw (lbY_eq h) (lsY_oI hO hb (by omega) c) (lsY_hOn ho hb) hb 49 0
      by_cases q : cLbW M n b tr (2 ^ k) T (7 + 5 * b + 1) = 0
      · rw [cLb_1 (by omega) (by omega) c q]
        exact step _ _ (by omega) c (Or.inr (hw.mp q)) (fun v q1 q2 => hv v (by omega) q2)
      · rw [cLb_2 (by omega) (by omega) c q]
        refine step _ _ t9 t999 ht (fun v q1 q2 w => q (hw.mpr ?_))
        unfold wTr at w ⊢
        refine Classical.byContradiction (fun w2 => ?_)
        rw [Bool.not_eq_false] at w2
        rw [lw_mono hO ho hb (by omega) q1 q2 w2] at w
        exact Bool.false_ne_true w.symm
    · rw [cLb_3 (by omega) (by omega) c]
      exact step _ _ t9 t999 ht (fun v q1 q2 => by omega)
termination_by k => k
theorem ls_is {Z : Nat → Int32} {n b t : Nat} (ht9 : 9 ≤ t) (ht : t ≤ 999) (h1 : ∀ v, 10 ≤ v → v ≤ t → wTr Z n b v) (h2 : ∀ v, t + 1 ≤ v → v ≤ 999 → ¬ wTr Z n b v) : ∀ f v, f + v = 1001 → 10 ≤ v → v ≤ t + 1 → lsF Z n b f v = if t = 999 then -1 else nI (t + 1)
  | 0, v, e, _, q => by omega
  | f + 1, v, e, q1, q2 => by
    show (if v ≤ 999 then (if lwF (lsY Z b v) n b 49 0 = true then nI v else lsF Z n b f (v + 1)) else -1) = _
    by_cases c : v ≤ 999
    · rw [if_pos c]
      by_cases d : v = t + 1
      · have := h2 v (by omega) c
        unfold wTr at this
        rw [Bool.not_eq_false] at this
        rw [if_pos this, if_neg (by omega), d]
      · have := h1 v q1 (by omega)
        unfold wTr at this
        rw [if_neg (by rw [this]; exact Bool.false_ne_true)]
        exact ls_is ht9 ht h1 h2 f (v + 1) (by omega) (by omega) (by omega)
    · rw [if_neg c, if_pos (by omega)]
theorem lb_eq {Ms : Nat → Nat → Int32} {Z : Nat → Int32} {n b : Nat} (h : eqZ (Ms 0) Z n) (hO : oI Z n) (ho : hOn Z) (hb : b < 4) : (if (cLbR Ms n b).1 = 999 then -1 else nI ((cLbR Ms n b).1 + 1)) = lsF Z n b 991 10 := by
  have hi := lb_inv (b := b) h hO ho hb 9 10 9 (Ms 1) (by omega) (Nat.le_refl 9) (by omega) (Or.inl rfl) (fun v q1 q2 => by
    have : 2 ^ (9 + 1) = 1024 := rfl
    omega)
  rw [show 2 ^ 9 = 512 from rfl] at hi
  have hi' : 9 ≤ (cLbR Ms n b).1 ∧ (cLbR Ms n b).1 ≤ 999 ∧ ((cLbR Ms n b).1 = 9 ∨ wTr Z n b (cLbR Ms n b).1) ∧ ∀ v, (cLbR Ms n b).1 + 1 ≤ v → v ≤ 999 → ¬ wTr Z n b v := hi
  generalize (cLbR Ms n b).1 = t at hi' ⊢
  obtain ⟨a1, a2, a3, a4⟩ := hi'
  refine (ls_is a1 a2 (fun v q1 q2 => ?_) a4 991 10 rfl (Nat.le_refl 10) (by omega)).symm
  rcases a3 with w | w
  · omega
  · unfold wTr at w ⊢
    refine Classical.byContradiction (fun w2 => ?_)
    rw [Bool.not_eq_false] at w2
    rw [lw_mono hO ho hb q1 q2 a2 w2] at w
    exact Bool.false_ne_true w.symm

