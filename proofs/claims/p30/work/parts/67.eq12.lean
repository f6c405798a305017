/-! THE REFERENCE: a greater bound never makes it hotter -/
theorem on_stays {Z : Nat → Int32} {n b : Nat} (hw : zW Z n) (hb : b < 4) (h : ¬ Z (7 + 5 * b + 1) = nI 1) : ¬ hrZ Z n (7 + 5 * b + 1) = nI 1 := by
  unfold hrZ
  rw [upd_n (by omega), (trip_on hb 4 (Nat.le_refl 4)).1, hrA_at hw (by omega) (by omega) (fun _ => ⟨by omega, by omega, by omega⟩) (fun _ _ => ⟨by omega, by omega⟩)]
  split
  · decide
  · exact h
theorem on_48 {Z : Nat → Int32} {n b : Nat} (hw : zW Z n) (hb : b < 4) : ∀ d i, hsZ Z n (i + d) (7 + 5 * b + 1) = nI 1 → hsZ Z n i (7 + 5 * b + 1) = nI 1
  | 0, _, h => h
  | d + 1, i, h => by
    refine on_48 hw hb d i (Classical.byContradiction (fun q => ?_))
    exact on_stays (hsZ_zW hw (i + d)) hb q h
theorem lw_48 {Y : Nat → Int32} {n b : Nat} (hw : zW Y n) (hb : b < 4) : ∀ f i, 49 ≤ f + i → i ≤ 48 → (lwF Y n b f i = true ↔ hsZ Y n 48 (7 + 5 * b + 1) = nI 1)
  | 0, i, h1, h2 => by omega
  | f + 1, i, h1, h2 => by
    show (if i < 48 then (if hsZ Y n i (7 + 5 * b + 1) = nI 1 then lwF Y n b f (i + 1) else false) else decide (hsZ Y n i (7 + 5 * b + 1) = nI 1)) = true ↔ _
    by_cases c : i < 48
    · rw [if_pos c]
      by_cases q : hsZ Y n i (7 + 5 * b + 1) = nI 1
      · rw [if_pos q]; exact lw_48 hw hb f (i + 1) (by omega) (by omega)
      · rw [if_neg q]
        refine ⟨fun w => absurd w Bool.false_ne_true, fun w => absurd (on_48 hw hb (48 - i) i ?_) q⟩
        rw [show i + (48 - i) = 48 by omega]; exact w
    · rw [if_neg c, decide_eq_true_eq, show i = 48 by omega]
theorem lsY_oI {Z : Nat → Int32} {n b v : Nat} (h : oI Z n) (hb : b < 4) (h1 : 10 ≤ v) (h2 : v ≤ 999) : oI (lsY Z b v) n := by
  have h10 := h.1
  unfold lsY pon
  exact oI_upd (oI_upd (oI_upd h (cOk_bound h10 hb h1 h2 rfl)) (cOk_flag (Or.inr rfl) (by omega) (by omega) (fun _ _ => ⟨by omega, by omega, by omega⟩) (fun _ _ => ⟨by omega, by omega⟩))) (cOk_heat h10 hb (a := 0) (by omega) rfl)
theorem lsY_hOn {Z : Nat → Int32} {b v : Nat} (h : hOn Z) (hb : b < 4) : hOn (lsY Z b v) := by
  intro c hc q
  unfold lsY pon at q ⊢
  by_cases e : c = b
  · subst e; rw [upd_s]; exact ⟨0, by omega, rfl⟩
  · rw [upd_n (by omega), upd_n (by omega), upd_n (by omega)] at q ⊢
    exact h c hc q
/-- where stalls are shed, nothing is ever too much -/
theorem shL_stop {b n : Nat} (hb : b < 4) : ∀ f {Z : Nat → Int32}, zW Z n → drN Z b n ≤ f → shC (shL b n f Z) b n = false
  | f, Z, hw, hd => by
    by_cases c : shC Z b n = true
    · have hcar : Z (7 + 5 * b + 0) < carS Z b n := by
        unfold shC at c
        rw [Bool.and_eq_true, decide_eq_true_eq] at c
        exact c.2
      have hs := drN_sh hw (shC_ftn hw hb hcar)
      match f, hd with
      | 0, hd => omega
      | f + 1, hd =>
        show shC (if shC Z b n = true then shL b n f (shS Z b n) else Z) b n = false
        rw [if_pos c]
        exact shL_stop hb f (shS_zW hw) (by omega)
    · have e : shL b n f Z = Z := by
        cases f
        · rfl
        · show (if shC Z b n = true then _ else _) = _
          rw [if_neg c]
      rw [e]; simpa using c
termination_by f => f
theorem shL_other {b c n : Nat} (hb : b < 4) (hne : b ≠ c) : ∀ f {Z : Nat → Int32}, zW Z n → carS (shL c n f Z) b n = carS Z b n
  | 0, _, _ => rfl
  | f + 1, Z, hw => by
    show carS (if shC Z c n = true then shL c n f (shS Z c n) else Z) b n = _
    by_cases q : shC Z c n = true
    · rw [if_pos q, shL_other hb hne f (shS_zW hw)]
      refine carS_congr n (fun j hj => ?_) (fun j hj => shS_at (by omega) (by omega))
      by_cases e : j = ftn Z c n
      · rw [e, shS_dr0]
        have hf : ftn Z c n ≠ 10 := by have := hw.1; omega
        exact (drwB_one (ftn_drw Z c n hf) hne).symm
      · exact shS_dr hw hj e b
    · rw [if_neg q]
theorem shd_cold {Z : Nat → Int32} {n b : Nat} (hw : zW Z n) (hb : b < 4) : ∀ i, i ≤ 4 → b < i → shC (shdS Z n i) b n = false
  | 0, _, h => absurd h (Nat.not_lt_zero _)
  | i + 1, hi, h => by
    have h10 := hw.1
    have hd := drN_le (shdS Z n i) i n
    show shC (shL i n 10 (shdS Z n i)) b n = false
    by_cases e : b = i
    · subst e; exact shL_stop hb 10 (shdS_zW hw b) (by omega)
    · have ih := shd_cold hw hb i (by omega) (by omega)
      unfold shC at ih ⊢
      rw [shL_other hb e 10 (shdS_zW hw i), shL_at (by omega) h10 10 (fun _ _ => by omega) (shdS_zW hw i) (by omega), shL_at (by omega) h10 10 (fun _ _ => by omega) (shdS_zW hw i) (by omega), shL_at (by omega) h10 10 (fun _ _ => by omega) (shdS_zW hw i) (by omega)]
      exact ih
theorem heat_hrZ {Z : Nat → Int32} {n b : Nat} (hw : zW Z n) (hb : b < 4) : hrZ Z n (7 + 5 * b + 2) = htZ (shdS Z n 4) b n := by
  unfold hrZ
  rw [upd_n (by omega), trip_at (fun _ _ => ⟨by omega, by omega⟩) 4 (Nat.le_refl 4)]
  unfold hrA
  rw [met_at (by omega) (fun _ => ⟨by omega, by omega⟩), warm_ht (shdS_zW hw 4) hb 4 (Nat.le_refl 4), if_pos hb]
theorem heat_hrA {Z : Nat → Int32} {n b : Nat} (hw : zW Z n) (hb : b < 4) : hrA Z n (7 + 5 * b + 2) = htZ (shdS Z n 4) b n := by
  unfold hrA
  rw [met_at (by omega) (fun _ => ⟨by omega, by omega⟩), warm_ht (shdS_zW hw 4) hb 4 (Nat.le_refl 4), if_pos hb]
theorem z_ne_5 (z : Nat) (h : z ≠ 5) : z ≠ 5 := h
theorem cold_hr {Z : Nat → Int32} {n b : Nat} (hO : oI Z n) (hb : b < 4) (h1 : Z 1 = nI 1) (hon : Z (7 + 5 * b + 1) = nI 1) (ht : Z (7 + 5 * b + 2) = nI 0) : hrZ Z n (7 + 5 * b + 1) = nI 1 ∧ hrZ Z n (7 + 5 * b + 2) = nI 0 := by
  have hw := oI_zW hO
  have hY := shdS_oI hO 4
  have hc := shd_cold hw hb 4 (Nat.le_refl 4) hb
  obtain ⟨d, d1, d2, d3⟩ := oI_cool hO
  obtain ⟨r, r1, r2⟩ := car_n hY b n (Nat.le_refl n)
  obtain ⟨a, a1, a2, a3⟩ := oI_bound hY hb
  have h10 := hO.1
  have hnc : ¬ (0 : Int32) < carS (shdS Z n 4) b n - shdS Z n 4 (7 + 5 * b + 0) := by
    unfold shC at hc
    rw [shdS_at hw (z_ne_5 1 (by omega)) (fun _ _ => by omega) 4 (Nat.le_refl 4), h1, shdS_at hw (z_ne_5 (7 + 5 * b + 1) (by omega)) (fun _ _ => by omega) 4 (Nat.le_refl 4), hon, decide_eq_true (rfl : nI 1 = nI 1), Bool.true_and, Bool.true_and, decide_eq_false_iff_not] at hc
    rw [r2, a3] at hc ⊢
    rw [← nI_0]
    exact nI_neg (Nat.le_of_not_lt (fun w => hc (nI_lt w (by omega)))) (by omega)
  have e : htZ (shdS Z n 4) b n = nI 0 := by
    unfold htZ
    rw [if_neg (fun q => hnc q.2), shdS_at hw (z_ne_5 (7 + 5 * b + 2) (by omega)) (fun _ _ => by omega) 4 (Nat.le_refl 4), ht, shdS_at hw (z_ne_5 0 (by omega)) (fun _ _ => by omega) 4 (Nat.le_refl 4), d3, if_pos (nI_lt (by omega) (by omega))]
  refine ⟨?_, (heat_hrZ hw hb).trans e⟩
  unfold hrZ
  rw [upd_n (by omega), (trip_on hb 4 (Nat.le_refl 4)).1, hrA_at hw (by omega) (by omega) (fun _ => ⟨by omega, by omega, by omega⟩) (fun _ _ => ⟨by omega, by omega⟩), if_neg]
  · exact hon
  · rintro ⟨_, q⟩
    unfold trC at q
    rw [heat_hrA hw hb, e, Bool.and_eq_true, decide_eq_true_eq, decide_eq_true_eq] at q
    exact absurd q.2 (by decide)
theorem cold_hs {Y : Nat → Int32} {n b : Nat} (hO : oI Y n) (ho : hOn Y) (hb : b < 4) (h1 : Y 1 = nI 1) (hon : Y (7 + 5 * b + 1) = nI 1) (ht : Y (7 + 5 * b + 2) = nI 0) : ∀ i, hsZ Y n i (7 + 5 * b + 1) = nI 1 ∧ hsZ Y n i (7 + 5 * b + 2) = nI 0
  | 0 => ⟨hon, ht⟩
  | i + 1 => by
    obtain ⟨q1, q2⟩ := cold_hs hO ho hb h1 hon ht i
    have h2 := (hs_all eqZ_rfl hO ho i).2.1
    refine cold_hr h2 hb ?_ q1 q2
    rw [hs_at (oI_zW hO) (by omega) (by omega) (by omega) (fun _ => ⟨by omega, by omega, by omega⟩) (fun _ _ => ⟨by omega, by omega, by omega, by omega⟩)]
    exact h1

