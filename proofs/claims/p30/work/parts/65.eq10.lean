/-! THE REFERENCE: two sockets of one breaker bring the same -/
def sim (X Y : Nat → Int32) (n a : Nat) : Prop := zW X n ∧ zW Y n ∧ a < n ∧ (∀ z, z < 39 + 8 * n → z ≠ 39 + 8 * a + 4 → X z = Y z) ∧ ¬ X (39 + 8 * a + 4) = -1 ∧ ¬ Y (39 + 8 * a + 4) = -1 ∧ brk X (skt X a) = brk Y (skt Y a)
theorem sim_upd {X Y : Nat → Int32} {n a i : Nat} {v : Int32} (h : sim X Y n a) (hx : zW (upd X i v) n) (hy : zW (upd Y i v) n) (hi : i ≠ 39 + 8 * a + 4) (hq : ∀ q, q < 12 → i ≠ 27 + q) : sim (upd X i v) (upd Y i v) n a := by
  obtain ⟨h1, h2, h3, h4, h5, h6, h7⟩ := h
  have e : ∀ V : Nat → Int32, upd V i v (39 + 8 * a + 4) = V (39 + 8 * a + 4) := fun V => upd_n (Ne.symm hi)
  refine ⟨hx, hy, h3, fun z hz hne => ?_, by rw [e]; exact h5, by rw [e]; exact h6, ?_⟩
  · by_cases q : z = i
    · subst q; rw [upd_s, upd_s]
    · rw [upd_n q, upd_n q]; exact h4 z hz hne
  · rw [skt_congr (Z := X) (e X), skt_congr (Z := Y) (e Y), brk_congr (Z := X) (upd_n (Ne.symm (hq _ (skt_lt h1 h3 h5)))), brk_congr (Z := Y) (upd_n (Ne.symm (hq _ (skt_lt h2 h3 h6))))]
    exact h7
theorem sim_c {X Y : Nat → Int32} {n a z : Nat} (h : sim X Y n a) (hz : z < 39 + 8 * n) (hne : z ≠ 39 + 8 * a + 4) : X z = Y z := h.2.2.2.1 z hz hne
theorem sim_rsn {X Y : Nat → Int32} {n a k : Nat} (h : sim X Y n a) (hk : k < n) : rsn X k = rsn Y k ∧ ∀ b, drwB X k b = drwB Y k b := by
  have h10 := h.1.1
  have ha := h.2.2.1
  have h4 := h.2.2.2.1
  by_cases e : k = a
  · subst e
    obtain ⟨h1, h2, h3, _, h5, h6, h7⟩ := h
    have hr : rsn X k = rsn Y k := by
      unfold rsn
      rw [wantB_congr (Z := Y) (Y := X) (h4 3 (by omega) (by omega)) (h4 _ (by omega) (by omega)) (h4 _ (by omega) (by omega)), if_neg h5, if_neg h6, h7, h4 (7 + 5 * brk Y (skt Y k) + 1) (by have := brk_lt (Z := Y) (skt_lt h2 h3 h6); omega) (by have := brk_lt (Z := Y) (skt_lt h2 h3 h6); omega), h4 (39 + 8 * k + 5) (by omega) (by omega)]
    refine ⟨hr, fun b => ?_⟩
    unfold drwB onB
    rw [hr, if_neg h5, if_neg h6, h7]
  · exact ⟨rsn_congr (h4 _ (by omega) (by omega)) (fun w hw => h4 _ (by omega) (by omega)) (fun q hq => h4 _ (by omega) (by omega)) (fun b hb => h4 _ (by omega) (by omega)) (skt_lt h.2.1 hk), fun b => drwB_congr (h4 _ (by omega) (by omega)) (fun w hw => h4 _ (by omega) (by omega)) (fun q hq => h4 _ (by omega) (by omega)) (fun b hb => h4 _ (by omega) (by omega)) (skt_lt h.2.1 hk)⟩
theorem sim_car {X Y : Nat → Int32} {n a : Nat} (h : sim X Y n a) (b : Nat) : carS X b n = carS Y b n :=
  carS_congr n (fun j hj => (sim_rsn h hj).2 b) (fun j hj => sim_c h (by omega) (by omega))
theorem sim_ftn {X Y : Nat → Int32} {n a : Nat} (h : sim X Y n a) (b : Nat) : ∀ i, i ≤ n → ftn X b i = ftn Y b i
  | 0, _ => rfl
  | i + 1, hi => by
    have ih := sim_ftn h b i (by omega)
    show (if drwB X i b = true ∧ (ftn X b i = 10 ∨ gofB X i (ftn X b i) = true) then i else ftn X b i) = if drwB Y i b = true ∧ (ftn Y b i = 10 ∨ gofB Y i (ftn Y b i) = true) then i else ftn Y b i
    rw [ih, (sim_rsn h (show i < n by omega)).2 b]
    rcases ftn_lt Y b i with q | q
    · by_cases c : drwB Y i b = true
      · rw [if_pos ⟨c, Or.inl q⟩, if_pos ⟨c, Or.inl q⟩]
      · rw [if_neg (fun w => c w.1), if_neg (fun w => c w.1)]
    · have e : gofB X i (ftn Y b i) = gofB Y i (ftn Y b i) := by
        unfold gofB
        rw [sim_c h (show 39 + 8 * ftn Y b i + 3 < 39 + 8 * n by omega) (by omega), sim_c h (show 39 + 8 * i + 3 < 39 + 8 * n by omega) (by omega), sim_c h (show 39 + 8 * ftn Y b i + 0 < 39 + 8 * n by omega) (by omega), sim_c h (show 39 + 8 * i + 0 < 39 + 8 * n by omega) (by omega)]
      rw [e]
theorem sim_shC {X Y : Nat → Int32} {n a b : Nat} (h : sim X Y n a) (hb : b < 4) : shC X b n = shC Y b n := by
  unfold shC
  rw [sim_car h b, sim_c h (show 1 < 39 + 8 * n by omega) (by omega), sim_c h (show 7 + 5 * b + 1 < 39 + 8 * n by omega) (by omega), sim_c h (show 7 + 5 * b + 0 < 39 + 8 * n by omega) (by omega)]
theorem sim_shS {X Y : Nat → Int32} {n a b : Nat} (h : sim X Y n a) : sim (shS X b n) (shS Y b n) n a := by
  have zx := shS_zW (b := b) h.1
  have zy := shS_zW (b := b) h.2.1
  have h10 := h.1.1
  unfold shS at zx zy ⊢
  rw [sim_ftn h b n (Nat.le_refl n)] at zx ⊢
  have hs := sim_upd (i := 39 + 8 * ftn Y b n + 5) (v := nI 1) h (zW_upd h.1 (by omega) (fun _ _ => by omega) (fun _ _ => by omega)) (zW_upd h.2.1 (by omega) (fun _ _ => by omega) (fun _ _ => by omega)) (by omega) (fun _ _ => by omega)
  have e5 := sim_c hs (show 5 < 39 + 8 * n by omega) (by omega)
  rw [e5] at zx ⊢
  exact sim_upd hs zx zy (by omega) (fun _ _ => by omega)
theorem sim_shL {n a b : Nat} (hb : b < 4) : ∀ f {X Y : Nat → Int32}, sim X Y n a → sim (shL b n f X) (shL b n f Y) n a
  | 0, _, _, h => h
  | f + 1, X, Y, h => by
    show sim (if shC X b n = true then shL b n f (shS X b n) else X) (if shC Y b n = true then shL b n f (shS Y b n) else Y) n a
    rw [sim_shC h hb]
    by_cases c : shC Y b n = true
    · rw [if_pos c, if_pos c]; exact sim_shL hb f (sim_shS h)
    · rw [if_neg c, if_neg c]; exact h
theorem sim_shd {X Y : Nat → Int32} {n a : Nat} (h : sim X Y n a) : ∀ i, i ≤ 4 → sim (shdS X n i) (shdS Y n i) n a
  | 0, _ => h
  | i + 1, hi => sim_shL (by omega) 10 (sim_shd h i (by omega))
theorem sim_wm {X Y : Nat → Int32} {n a b : Nat} (h : sim X Y n a) (hb : b < 4) : sim (warmZ X b n) (warmZ Y b n) n a := by
  have zx := warmZ_zW h.1 hb
  have zy := warmZ_zW h.2.1 hb
  have z1 := wr1_zW h.1 hb
  have z2 := wr1_zW h.2.1 hb
  have eh : htZ X b n = htZ Y b n := by
    unfold htZ
    rw [sim_car h b, sim_c h (show 7 + 5 * b + 1 < 39 + 8 * n by omega) (by omega), sim_c h (show 7 + 5 * b + 0 < 39 + 8 * n by omega) (by omega), sim_c h (show 7 + 5 * b + 2 < 39 + 8 * n by omega) (by omega), sim_c h (show 0 < 39 + 8 * n by omega) (by omega)]
  have h1 : sim (wr1 X b n) (wr1 Y b n) n a := by
    unfold wr1 at z1 z2 ⊢
    rw [eh] at z1 ⊢
    exact sim_upd h z1 z2 (by omega) (fun _ _ => by omega)
  unfold warmZ at zx zy ⊢
  have e : wr1 X b n (7 + 5 * b + 4) + carS (wr1 X b n) b n = wr1 Y b n (7 + 5 * b + 4) + carS (wr1 Y b n) b n := by
    rw [sim_car h1 b, sim_c h1 (show 7 + 5 * b + 4 < 39 + 8 * n by omega) (by omega)]
  rw [e] at zx ⊢
  exact sim_upd h1 zx zy (by omega) (fun _ _ => by omega)
theorem sim_wmS {X Y : Nat → Int32} {n a : Nat} (h : sim X Y n a) : ∀ i, i ≤ 4 → sim (warmS X n i) (warmS Y n i) n a
  | 0, _ => h
  | i + 1, hi => sim_wm (sim_wmS h i (by omega)) (by omega)
theorem sim_mt {X Y : Nat → Int32} {n a k : Nat} (h : sim X Y n a) (hk : k < n) : sim (meterZ X k) (meterZ Y k) n a := by
  have zx := meterZ_zW (k := k) h.1
  have zy := meterZ_zW (k := k) h.2.1
  have hr := (sim_rsn h hk).1
  have h10 := h.1.1
  have h1 : sim (mt1 X k) (mt1 Y k) n a := by
    unfold mt1
    rw [hr, sim_c h (show 39 + 8 * k + 6 < 39 + 8 * n by omega) (by omega), sim_c h (show 39 + 8 * k + 0 < 39 + 8 * n by omega) (by omega)]
    exact sim_upd h (zW_upd h.1 (by omega) (fun _ _ => by omega) (fun _ _ => by omega)) (zW_upd h.2.1 (by omega) (fun _ _ => by omega) (fun _ _ => by omega)) (by omega) (fun _ _ => by omega)
  have h2 : sim (mt2 X k) (mt2 Y k) n a := by
    unfold mt2
    rw [hr, sim_c h1 (show 39 + 8 * k + 7 < 39 + 8 * n by omega) (by omega)]
    exact sim_upd h1 (zW_upd h1.1 (by omega) (fun _ _ => by omega) (fun _ _ => by omega)) (zW_upd h1.2.1 (by omega) (fun _ _ => by omega) (fun _ _ => by omega)) (by omega) (fun _ _ => by omega)
  unfold meterZ at zx zy ⊢
  rw [hr, sim_c h2 (show 6 < 39 + 8 * n by omega) (by omega)] at zx
  rw [hr, sim_c h2 (show 6 < 39 + 8 * n by omega) (by omega)]
  exact sim_upd h2 zx zy (by omega) (fun _ _ => by omega)
theorem sim_mtS {X Y : Nat → Int32} {n a : Nat} (h : sim X Y n a) : ∀ i, i ≤ n → sim (metS X i) (metS Y i) n a
  | 0, _ => h
  | i + 1, hi => sim_mt (sim_mtS h i (by omega)) (by omega)
theorem sim_trC {X Y : Nat → Int32} {n a b : Nat} (h : sim X Y n a) (hb : b < 4) : trC X b = trC Y b := by
  unfold trC
  rw [sim_c h (show 7 + 5 * b + 1 < 39 + 8 * n by omega) (by omega), sim_c h (show 7 + 5 * b + 2 < 39 + 8 * n by omega) (by omega)]
theorem sim_tr1 {X Y : Nat → Int32} {n a b : Nat} (h : sim X Y n a) (hb : b < 4) : sim (tr1 X b) (tr1 Y b) n a := by
  have zx := tr1_zW h.1 hb
  have zy := tr1_zW h.2.1 hb
  have h1 := sim_upd (i := 7 + 5 * b + 1) (v := nI 0) h (zW_upd h.1 (by omega) (fun _ _ => by omega) (fun _ _ => by omega)) (zW_upd h.2.1 (by omega) (fun _ _ => by omega) (fun _ _ => by omega)) (by omega) (fun _ _ => by omega)
  unfold tr1 at zx zy ⊢
  rw [sim_c h1 (show 7 + 5 * b + 3 < 39 + 8 * n by omega) (by omega)] at zx ⊢
  exact sim_upd h1 zx zy (by omega) (fun _ _ => by omega)
theorem sim_tr {X Y : Nat → Int32} {n a : Nat} (h : sim X Y n a) : ∀ i, i ≤ 4 → sim (tripZ X i) (tripZ Y i) n a ∧ tripT X i = tripT Y i
  | 0, _ => ⟨h, rfl⟩
  | i + 1, hi => by
    obtain ⟨h1, h2⟩ := sim_tr h i (by omega)
    show sim (if trC (tripZ X i) i = true then tr1 (tripZ X i) i else tripZ X i) (if trC (tripZ Y i) i = true then tr1 (tripZ Y i) i else tripZ Y i) n a ∧ (if trC (tripZ X i) i = true then tripT X i + nI 1 else tripT X i) = if trC (tripZ Y i) i = true then tripT Y i + nI 1 else tripT Y i
    rw [sim_trC h1 (show i < 4 by omega), h2]
    by_cases c : trC (tripZ Y i) i = true
    · rw [if_pos c, if_pos c, if_pos c]; exact ⟨sim_tr1 h1 (by omega), rfl⟩
    · rw [if_neg c, if_neg c, if_neg c]; exact ⟨h1, rfl⟩
theorem sim_hr {X Y : Nat → Int32} {n a : Nat} (h : sim X Y n a) : sim (hrZ X n) (hrZ Y n) n a ∧ hrT X n = hrT Y n := by
  have h1 : sim (hrA X n) (hrA Y n) n a := sim_mtS (sim_wmS (sim_shd h 4 (Nat.le_refl 4)) 4 (Nat.le_refl 4)) n (Nat.le_refl n)
  obtain ⟨h2, h3⟩ := sim_tr h1 4 (Nat.le_refl 4)
  have zx := hrZ_zW h.1
  have zy := hrZ_zW h.2.1
  refine ⟨?_, h3⟩
  unfold hrZ at zx zy ⊢
  rw [sim_c h2 (show 3 < 39 + 8 * n by omega) (by omega)] at zx ⊢
  exact sim_upd h2 zx zy (by omega) (fun _ _ => by omega)
theorem sim_hs {X Y : Nat → Int32} {n a : Nat} (h : sim X Y n a) : ∀ i, sim (hsZ X n i) (hsZ Y n i) n a ∧ hsT X n i = hsT Y n i
  | 0 => ⟨h, rfl⟩
  | i + 1 => by
    obtain ⟨h1, h2⟩ := sim_hs h i
    obtain ⟨h3, h4⟩ := sim_hr h1
    refine ⟨h3, ?_⟩
    show hsT X n i + hrT (hsZ X n i) n = hsT Y n i + hrT (hsZ Y n i) n
    rw [h2, h4]
theorem sumS_congr {X Y : Nat → Int32} {w : Nat} (hw : w < 8) : ∀ m, (∀ k, k < m → Y (39 + 8 * k + w) = X (39 + 8 * k + w)) → sumS Y w m = sumS X w m
  | 0, _ => rfl
  | m + 1, h => by unfold sumS tldS; rw [sumS_congr hw m (fun b hb => h b (by omega)), if_pos hw, if_pos hw, h m (by omega)]
theorem wpY_sim {Z : Nat → Int32} {n a q r : Nat} (hw : zW Z n) (ha : a < n) (hq : q < 12) (hr : r < 12) (hb : brk Z q = brk Z r) : sim (wpY Z a q) (wpY Z a r) n a := by
  have h10 := hw.1
  have e : ∀ s, s < 12 → wpY Z a s (39 + 8 * a + 4) = nI s := fun s hs => upd_s
  have es : ∀ s, s < 12 → skt (wpY Z a s) a = s := fun s hs => by unfold skt; rw [e s hs, nI_clamp (by omega)]
  have eb : ∀ s t, s < 12 → t < 12 → brk (wpY Z a s) t = brk Z t := fun s t hs ht => brk_congr (by unfold wpY; rw [upd_n (by omega)])
  refine ⟨wpY_zW hw ha hq, wpY_zW hw ha hr, ha, fun z _ hne => by unfold wpY; rw [upd_n hne, upd_n hne], by rw [e q hq]; exact nI_nm1 (by omega), by rw [e r hr]; exact nI_nm1 (by omega), ?_⟩
  rw [es q hq, es r hr, eb q q hq hq, eb r r hr hr, hb]
/-- what a day brings with the stall at a socket: dark hours, trips -/
theorem wp_same {Z : Nat → Int32} {n a q r tm : Nat} (hw : zW Z n) (ha : a < n) (hq : q < 12) (hr : r < 12) (hb : brk Z q = brk Z r) : sumS (hsZ (wpY Z a q) n tm) 7 n = sumS (hsZ (wpY Z a r) n tm) 7 n ∧ hsT (wpY Z a q) n tm = hsT (wpY Z a r) n tm := by
  have h := sim_hs (wpY_sim hw ha hq hr hb) tm
  exact ⟨sumS_congr (by omega) n (fun k hk => sim_c h.1 (by omega) (by omega)), h.2⟩

