/-! CLASS AND REFERENCE: what would be if a stall was at a socket, when a breaker trips -/
theorem cp_eq {T M Z : Nat → Int32} {n : Nat} (h : eqZ M Z n) : eqZ (cCp T M n) Z n := fun z hz => (if_pos hz).trans (h z hz)
theorem at_eqZ {M Z : Nat → Int32} {n q : Nat} (h : eqZ M Z n) (hO : oI Z n) (hu : unS Z n) (hq : q < 12) : cAt M (nI q) n 11 0 = ox (satN Z (nI q) n) :=
  at_eq hO.1 (fun k hk => h _ (by omega)) hu (nI_nm1 (by omega))
theorem tk_eq {M Z : Nat → Int32} {n a q : Nat} (h : eqZ M Z n) (hO : oI Z n) (hu : unS Z n) (hq : q < 12) : cTk M n (nI a) (nI q) = tknB Z n a (nI q) := by
  unfold cTk tknB
  rw [at_eqZ h hO hu hq, decide_not, decide_not]
theorem cOk_sock {n k : Nat} {x : Int32} (hn : n ≤ 10) (hk : k < n) (hx : x = -1 ∨ ∃ q, q < 12 ∧ x = nI q) : cOk n (39 + 8 * k + 4) x :=
  ⟨fun e => by omega, fun e => by omega, fun e => by omega, fun k hk1 e => by omega, fun k hk1 e => by omega, fun _ _ _ => hx, fun k hk1 e => by omega, fun c hb1 e => by omega, fun c hb1 e => by omega, fun c hb1 e => by omega, fun q hq1 e => by omega⟩
theorem cOk_bound {n b a : Nat} {x : Int32} (hn : n ≤ 10) (hb4 : b < 4) (h1 : 10 ≤ a) (h2 : a ≤ 999) (hx : x = nI a) : cOk n (7 + 5 * b + 0) x :=
  ⟨fun e => by omega, fun e => by omega, fun e => by omega, fun k hk1 e => by omega, fun k hk1 e => by omega, fun k hk1 e => by omega, fun k hk1 e => by omega, fun _ _ _ => ⟨a, h1, h2, hx⟩, fun c hb1 e => by omega, fun c hb1 e => by omega, fun q hq1 e => by omega⟩
theorem hOn_upd {Z : Nat → Int32} {i : Nat} {v : Int32} (h : hOn Z) (hi : ∀ b, b < 4 → i ≠ 7 + 5 * b + 1 ∧ i ≠ 7 + 5 * b + 2) : hOn (upd Z i v) := by
  intro b hb q
  rw [upd_n (Ne.symm (hi b hb).1)] at q
  rw [upd_n (Ne.symm (hi b hb).2)]
  exact h b hb q
theorem wpY_oI {Z : Nat → Int32} {n a q : Nat} (h : oI Z n) (ha : a < n) (hq : q < 12) : oI (wpY Z a q) n := oI_upd h (cOk_sock h.1 ha (Or.inr ⟨q, hq, rfl⟩))
theorem wpY_hOn {Z : Nat → Int32} {n a q : Nat} (h : hOn Z) : hOn (wpY Z a q) := hOn_upd h (fun _ _ => ⟨by omega, by omega⟩)
theorem sub_l (a b : Int32) : a + b - a = b := by rw [Int32.add_comm, Int32.add_sub_cancel]
theorem wpY_sum {Z : Nat → Int32} {n a q tm : Nat} (hO : oI Z n) (ha : a < n) (hq : q < 12) : sumB (hsZ (wpY Z a q) n tm) 3 4 = sumB Z 3 4 + hsT (wpY Z a q) n tm := by
  rw [hs_sum (wpY_zW (oI_zW hO) ha hq), sumB_congr (X := Z) (Y := wpY Z a q) 4 (fun b hb => by unfold wpY; rw [upd_n (by omega)])]
theorem if_eq {Ms : Nat → Nat → Int32} {Z : Nat → Int32} {n k q tm w : Nat} (h : eqZ (Ms 0) Z n) (hO : oI Z n) (ho : hOn Z) (hu : unS Z n) (hk : k < n) (hq : q < 12) : cIfR Ms n k (nI q) tm w = wpR Z n k q tm w := by
  unfold cIfR wpR
  rw [tk_eq h hO hu hq]
  have h1 : eqZ (upd (cCp (Ms 1) (Ms 0) n) (39 + 8 * k + 4) (nI q)) (wpY Z k q) n := eqZ_upd (cp_eq h)
  have h2 : eqZ (cIfM Ms n k (nI q) tm) (hsZ (wpY Z k q) n tm) n := (hs_all h1 (wpY_oI hO hk hq) (wpY_hOn (n := n) ho) tm).1
  rw [sb_eq h2 (show 3 < 5 by omega) 4 (Nat.le_refl 4), sb_eq h (show 3 < 5 by omega) 4 (Nat.le_refl 4), ss_eq h2 (show 7 < 8 by omega) n (Nat.le_refl n), ss_eq h (show 7 < 8 by omega) n (Nat.le_refl n), h2 _ (show 39 + 8 * k + 6 < 39 + 8 * n by omega), h _ (show 39 + 8 * k + 6 < 39 + 8 * n by omega), wpY_sum hO hk hq, sub_l]
theorem ti_eq {M Z : Nat → Int32} {n b : Nat} (h : eqZ M Z n) (hO : oI Z n) (ho : hOn Z) (hb : b < 4) : ∀ f i, (cTi M n b f i).1 = htF Z n b f i
  | 0, i => rfl
  | f + 1, i => by
    have h10 := hO.1
    obtain ⟨h1, h2, _⟩ := hs_all h hO ho i
    show (if i ≤ 96 then (if cHs M n i (7 + 5 * b + 1) = 0 then (nI i, i) else cTi M n b f (i + 1)) else (-1, i)).1 = if i ≤ 96 then (if hsZ Z n i (7 + 5 * b + 1) = nI 1 then htF Z n b f (i + 1) else nI i) else -1
    rw [h1 _ (show 7 + 5 * b + 1 < 39 + 8 * n by omega)]
    by_cases c : i ≤ 96
    · rw [if_pos c, if_pos c]
      rcases (oI_bW h2).2.1 b hb with q | q
      · rw [q, if_pos rfl, if_neg (by decide)]
      · rw [q, if_neg (by decide), if_pos (by decide)]
        exact ti_eq h hO ho hb f (i + 1)
    · rw [if_neg c, if_neg c]
/-- what has run on is small -/
def bN (Z : Nat → Int32) (n h : Nat) : Prop := Z 3 = nI h ∧ (∃ s, s ≤ 10 * h ∧ Z 6 = nI s) ∧ (∀ k, k < n → ∃ d, d ≤ h ∧ Z (39 + 8 * k + 7) = nI d) ∧ ∀ b, b < 4 → ∃ t, t ≤ h ∧ Z (7 + 5 * b + 3) = nI t
theorem met_6 {W : Nat → Int32} : ∀ i, ∃ c, c ≤ i ∧ metS W i 6 = W 6 + nI c
  | 0 => ⟨0, Nat.le_refl 0, by rw [nI_0]; exact (Int32.add_zero _).symm⟩
  | i + 1 => by
    obtain ⟨c, h1, h2⟩ := met_6 (W := W) i
    show ∃ c, c ≤ i + 1 ∧ meterZ (metS W i) i 6 = _
    unfold meterZ mt2 mt1
    rw [upd_s, upd_n (by omega), upd_n (by omega), h2]
    by_cases q : rsn (metS W i) i = 0
    · rw [if_pos q]; exact ⟨c + 1, by omega, by rw [Int32.add_assoc, nI_add]⟩
    · rw [if_neg q]; exact ⟨c, by omega, by rw [nI_0, Int32.add_zero]⟩
theorem met_7 {W : Nat → Int32} {k : Nat} : ∀ i, (i ≤ k → metS W i (39 + 8 * k + 7) = W (39 + 8 * k + 7)) ∧ ∃ c, c ≤ 1 ∧ metS W i (39 + 8 * k + 7) = W (39 + 8 * k + 7) + nI c
  | 0 => ⟨fun _ => rfl, 0, by omega, by rw [nI_0]; exact (Int32.add_zero _).symm⟩
  | i + 1 => by
    obtain ⟨h0, c, h1, h2⟩ := met_7 (W := W) (k := k) i
    show (i + 1 ≤ k → meterZ (metS W i) i (39 + 8 * k + 7) = _) ∧ ∃ c, c ≤ 1 ∧ meterZ (metS W i) i (39 + 8 * k + 7) = _
    unfold meterZ mt2 mt1
    rw [upd_n (by omega)]
    by_cases e : k = i
    · subst e
      rw [upd_s, upd_n (by omega), h0 (Nat.le_refl k)]
      refine ⟨fun q => by omega, ?_⟩
      by_cases q : 1 < rsn (metS W k) k
      · rw [if_pos q]; exact ⟨1, by omega, rfl⟩
      · rw [if_neg q]; exact ⟨0, by omega, rfl⟩
    · rw [upd_n (by omega), upd_n (by omega)]
      exact ⟨fun q => h0 (by omega), c, h1, h2⟩
theorem hr_bN {Z : Nat → Int32} {n h : Nat} (hO : oI Z n) (hb : bN Z n h) : bN (hrZ Z n) n (h + 1) := by
  obtain ⟨b1, ⟨s, s1, s2⟩, b3, b4⟩ := hb
  have hw := oI_zW hO
  have h10 := hO.1
  refine ⟨?_, ?_, fun k hk => ?_, fun b hb => ?_⟩
  · unfold hrZ
    rw [upd_s, trip_at (fun _ _ => ⟨by omega, by omega⟩) 4 (Nat.le_refl 4), hrA_at hw (by omega) (by omega) (fun _ => ⟨by omega, by omega, by omega⟩) (fun _ _ => ⟨by omega, by omega⟩), b1, nI_add]
  · obtain ⟨c, c1, c2⟩ := met_6 (W := warmS (shdS Z n 4) n 4) n
    refine ⟨s + c, by omega, ?_⟩
    unfold hrZ
    rw [upd_n (by omega), trip_at (fun _ _ => ⟨by omega, by omega⟩) 4 (Nat.le_refl 4)]
    unfold hrA
    rw [c2, warm_at (fun _ _ => ⟨by omega, by omega⟩) 4 (Nat.le_refl 4), shdS_at hw (by omega) (fun _ _ => by omega) 4 (Nat.le_refl 4), s2, nI_add]
  · obtain ⟨_, c, c1, c2⟩ := met_7 (W := warmS (shdS Z n 4) n 4) (k := k) n
    obtain ⟨d, d1, d2⟩ := b3 k hk
    refine ⟨d + c, by omega, ?_⟩
    unfold hrZ
    rw [upd_n (by omega), trip_at (fun _ _ => ⟨by omega, by omega⟩) 4 (Nat.le_refl 4)]
    unfold hrA
    rw [c2, warm_at (fun _ _ => ⟨by omega, by omega⟩) 4 (Nat.le_refl 4), shdS_at hw (by omega) (fun _ _ => by omega) 4 (Nat.le_refl 4), d2, nI_add]
  · obtain ⟨t, t1, t2⟩ := b4 b hb
    unfold hrZ
    rw [upd_n (by omega), (trip_on hb 4 (Nat.le_refl 4)).2, hrA_at hw (by omega) (by omega) (fun _ => ⟨by omega, by omega, by omega⟩) (fun _ _ => ⟨by omega, by omega⟩), t2]
    by_cases q : b < 4 ∧ trC (hrA Z n) b = true
    · rw [if_pos q, nI_add]; exact ⟨t + 1, by omega, rfl⟩
    · rw [if_neg q]; exact ⟨t, by omega, rfl⟩
theorem hs_bN {Z : Nat → Int32} {n h : Nat} (hO : oI Z n) (ho : hOn Z) (hb : bN Z n h) : ∀ i, bN (hsZ Z n i) n (h + i)
  | 0 => hb
  | i + 1 => hr_bN (hs_all eqZ_rfl hO ho i).2.1 (hs_bN hO ho hb i)
theorem wpY_bN {Z : Nat → Int32} {n h a q : Nat} (hb : bN Z n h) : bN (wpY Z a q) n h := by
  obtain ⟨b1, ⟨s, s1, s2⟩, b3, b4⟩ := hb
  unfold wpY
  exact ⟨by rw [upd_n (by omega)]; exact b1, ⟨s, s1, by rw [upd_n (by omega)]; exact s2⟩, fun k hk => by rw [upd_n (by omega)]; exact b3 k hk, fun b hb => by rw [upd_n (by omega)]; exact b4 b hb⟩
theorem dark_n {Z : Nat → Int32} {n h : Nat} (hb : bN Z n h) : ∀ i, i ≤ n → ∃ d, d ≤ i * h ∧ sumS Z 7 i = nI d
  | 0, _ => ⟨0, Nat.zero_le _, nI_0.symm⟩
  | i + 1, hi => by
    obtain ⟨d, d1, d2⟩ := dark_n hb i (by omega)
    obtain ⟨c, c1, c2⟩ := hb.2.2.1 i (by omega)
    refine ⟨d + c, by rw [Nat.succ_mul]; omega, ?_⟩
    unfold sumS tldS
    rw [if_pos (by omega), d2, c2, nI_add]
theorem trips_n {Z : Nat → Int32} {n h : Nat} (hb : bN Z n h) : ∀ i, i ≤ 4 → ∃ d, d ≤ i * h ∧ sumB Z 3 i = nI d
  | 0, _ => ⟨0, Nat.zero_le _, nI_0.symm⟩
  | i + 1, hi => by
    obtain ⟨d, d1, d2⟩ := trips_n hb i (by omega)
    obtain ⟨c, c1, c2⟩ := hb.2.2.2 i (by omega)
    refine ⟨d + c, by rw [Nat.succ_mul]; omega, ?_⟩
    unfold sumB
    rw [d2, c2, nI_add]

