/-! STEP BY STEP: a call of the class and the reference's -/
/-- both objects stand in the relation -/
def CS (ct : Nat → ClassId) (ad ad6 : Nat → Nat) (ce ce6 : Nat → va_E) : Prop := ∃ (Ms : Nat → Nat → Int32) (kp : Nat → Int32) (nx sz : Nat) (B A : Nat → Int32) (tn p9 : Nat) (kd : Int32) (Z g : Nat → Int32) (hs : Int64) (F : Nat → Nat → Int32) (n : Nat), ce = csc ct ad Ms kp (nI nx) (nI sz) B A (nI tn) (nI p9) kd ∧ ce6 = mdc ct ad6 Z g hs F ∧ Rel Ms kp nx sz B tn Z g F n
/-- the law's call, the reference's, what it says that it threw: they agree, and the relation stands -/
def Step (l : Launch) (D : va_G) (ct : Nat → ClassId) (cL : ClassId) (ad ad6 : Nat → Nat) (y : MethodName) (cc : ByteArray) (maxL : Nat) (hh : List (Nat × Nat × Nat × Nat)) (vs : List Value) (y6 : MethodName) (cc6 : ByteArray) (m6 fr6 lo6 : Nat) : Prop := ∀ (ce ce6 : Nat → va_E) (v : Int64), CS ct ad ad6 ce ce6 → ∃ (k : Int32) (ce' : Nat → va_E) (v' : Int64) (r : Int32) (ce6' : Nat → va_E), OMet l y cc maxL hh D ct cL ad (.ref (ad 0) :: (vs ++ [.ref (ad 198)])) ce v k ce' v' ∧ FMet l y6 cc6 m6 (some .int) fr6 lo6 D ct 8 ad6 (.ref (ad6 0) :: vs) ce6 (some (.int r)) ce6' ∧ FMet l yX6_thrown cX6_thrown 1 (some .int) 0 0 D ct 8 ad6 [.ref (ad6 0)] ce6' (some (.int k)) ce6' ∧ (k = 0 → v' = r.toInt64) ∧ CS ct ad ad6 ce' ce6'
theorem step_of {l : Launch} {D : va_G} {ct : Nat → ClassId} {cL : ClassId} {ad ad6 : Nat → Nat} {y : MethodName} {cc : ByteArray} {maxL : Nat} {hh : List (Nat × Nat × Nat × Nat)} {vs : List Value} {y6 : MethodName} {cc6 : ByteArray} {m6 fr6 lo6 : Nat} {ce ce6 : Nat → va_E} {v v' : Int64} {k r : Int32} {Ms : Nat → Nat → Int32} {kp : Nat → Int32} {nx sz : Nat} {B A : Nat → Int32} {tn p9 : Nat} {kd : Int32} {Z g : Nat → Int32} {hs : Int64} {F : Nat → Nat → Int32} {n : Nat}
    (hO : OMet l y cc maxL hh D ct cL ad (.ref (ad 0) :: (vs ++ [.ref (ad 198)])) ce v k (csc ct ad Ms kp (nI nx) (nI sz) B A (nI tn) (nI p9) kd) v') (hM : FMet l y6 cc6 m6 (some .int) fr6 lo6 D ct 8 ad6 (.ref (ad6 0) :: vs) ce6 (some (.int r)) (mdc ct ad6 Z g hs F)) (hg : g 0 = k) (hv : k = 0 → v' = r.toInt64) (hR : Rel Ms kp nx sz B tn Z g F n) : ∃ (k : Int32) (ce' : Nat → va_E) (v' : Int64) (r : Int32) (ce6' : Nat → va_E), OMet l y cc maxL hh D ct cL ad (.ref (ad 0) :: (vs ++ [.ref (ad 198)])) ce v k ce' v' ∧ FMet l y6 cc6 m6 (some .int) fr6 lo6 D ct 8 ad6 (.ref (ad6 0) :: vs) ce6 (some (.int r)) ce6' ∧ FMet l yX6_thrown cX6_thrown 1 (some .int) 0 0 D ct 8 ad6 [.ref (ad6 0)] ce6' (some (.int k)) ce6' ∧ (k = 0 → v' = r.toInt64) ∧ CS ct ad ad6 ce' ce6' := by
  have hT := m6_thrown l D ct ad6 Z g hs F
  rw [hg] at hT
  exact ⟨k, _, v', r, _, hO, hM, hT, hv, Ms, kp, nx, sz, B, A, tn, p9, kd, Z, g, hs, F, n, rfl, rfl, hR⟩
theorem if00 {α : Sort _} (a b : α) : (if (0 : Nat) = 0 then a else b) = a := if_pos rfl
theorem if10 {α : Sort _} (a b : α) : (if (1 : Nat) = 0 then a else b) = b := if_neg (by decide)
theorem if20 {α : Sort _} (a b : α) : (if (2 : Nat) = 0 then a else b) = b := if_neg (by decide)
theorem if30 {α : Sort _} (a b : α) : (if (3 : Nat) = 0 then a else b) = b := if_neg (by decide)
theorem z3 {b : Int32} : inB b 0 3 = inB b (nI 0) (nI 3) := by rw [show (nI 0 : Int32) = 0 from by decide, show (nI 3 : Int32) = 3 from by decide]
theorem z11 {b : Int32} : inB b 0 11 = inB b (nI 0) (nI 11) := by rw [show (nI 0 : Int32) = 0 from by decide, show (nI 11 : Int32) = 11 from by decide]
theorem nI_up {v : Int32} {a : Nat} (ha : a + 1 < 2147483648) : (nI a < v ↔ nI (a + 1) ≤ v) := by
  rw [Int32.lt_iff_toInt_lt, Int32.le_iff_toInt_le, nI_toInt (by omega), nI_toInt (by omega)]
  omega
theorem in0 {v : Int32} {a : Nat} (ha : a + 1 < 2147483648) (h : inB v (nI 0) (nI a) = true) : ¬ v < 0 ∧ ¬ nI (a + 1) ≤ v := ⟨(inB_yes h).1, fun q => (inB_yes h).2 ((nI_up ha).mpr q)⟩
theorem in0n {v : Int32} {a : Nat} (ha : a + 1 < 2147483648) (h : inB v (nI 0) (nI a) = false) : v < 0 ∨ nI (a + 1) ≤ v := (inB_no h).imp id (nI_up ha).mp
theorem st_stall (l : Launch) (hlt : l.stackTraces = false) (D : va_G) (ct : Nat → ClassId) (cL : ClassId) (ad ad6 : Nat → Nat) (a0 : Int32) (a1 : Int32) (a2 : Int32) (a3 : Int32) : Step l D ct cL ad ad6 yL_stall cL_stall 7 [(0, 14, 17, 13), (0, 14, 21, 15)] [.int a0, .int a1, .int a2, .int a3] yX6_stall cX6_stall 6 2 48 := by
  intro ce ce6 v9 hC
  obtain ⟨Ms, kp, nx, sz, B, A, tn, p9, kd, Z, g, hs, F, n, rfl, rfl, hR⟩ := hC
  obtain ⟨he, hr, hnx, hsz, hg3, hg8, htn, hB, hF6, hsl, hri⟩ := id hR
  have hO := hr.1
  have hz := oI_zW hO
  have hw := oI_mW (oI_eq hO he)
  have hbw := oI_bW (oI_eq hO he)
  have hn10 := hz.1
  by_cases c : (inB a0 (nI 1) (nI 500) && inB a1 (nI 0) (nI 23) && inB a2 (nI 0) (nI 23) && inB a3 (nI 1) (nI 9)) = true
  · have c9 := c
    simp only [Bool.and_eq_true] at c9
    obtain ⟨⟨⟨c0, c1⟩, c2⟩, c3⟩ := c9
    by_cases c10 : n = 10
    · have ht : tStall n a0 a1 a2 a3 = 2 := by unfold tStall; rw [if_pos c, if_pos c10]
      have hM := m6_stall l D ct ad6 Z g hs F a0 a1 a2 a3 n sz hz hg3 hsz
      rw [ht] at hM
      simp only [if20, ↓reduceIte] at hM
      exact step_of (mL_stall_ES rfl (by decide) (by decide) (mX5_stall_tS l hlt D ct ad Ms kp nx sz B A tn p9 kd a0 a1 a2 a3 n hw c10 (inB_yes c0).1 (inB_yes c0).2 (inB_yes c3).1 (inB_yes c3).2 (in0 (by decide) c1).1 (in0 (by decide) c1).2 (in0 (by decide) c2).1 (in0 (by decide) c2).2)) hM (upd_s.trans (by decide)) (fun h => absurd h (by decide)) (hR.congr (fun _ _ => rfl) (upd_n (by omega)) (upd_n (by omega)) (fun _ _ _ => rfl))
    · have ht : tStall n a0 a1 a2 a3 = 0 := by unfold tStall; rw [if_pos c, if_neg c10]
      have hM := m6_stall l D ct ad6 Z g hs F a0 a1 a2 a3 n sz hz hg3 hsz
      rw [ht] at hM
      simp only [if00, ↓reduceIte] at hM
      exact step_of (mL_stall rfl (by decide) (by decide) (FMet.g (mX5_stall l D ct ad Ms kp nx sz B A tn p9 kd a0 a1 a2 a3 n hw hbw hnx hsz (by omega) (inB_yes c0).1 (inB_yes c0).2 (inB_yes c3).1 (inB_yes c3).2 (in0 (by decide) c1).1 (in0 (by decide) c1).2 (in0 (by decide) c2).1 (in0 (by decide) c2).2))) hM ((upd_n (by omega)).trans (upd_s.trans (by decide))) (fun _ => congrArg Int32.toInt64 (rfl)) (hR.save (tn' := tn) (by rw [vup_s]; exact come_eq he) (rI_come hr (by omega) c0 c3) upd_s ((upd_n (by omega)).trans ((upd_n (by omega)).trans hg8)) (Nat.le_refl _) ((va_up_ne _ _ (by omega)).trans (vup_s _ _ _)) (fun j h0 _ h4 => (va_up_ne _ _ h0).trans (va_up_ne _ _ h4)) (vup_s _ _ _) (fun j h2 _ _ => va_up_ne _ _ h2))
  · have ht : tStall n a0 a1 a2 a3 = 1 := by unfold tStall; rw [if_neg c]
    have hM := m6_stall l D ct ad6 Z g hs F a0 a1 a2 a3 n sz hz hg3 hsz
    rw [ht] at hM
    simp only [if10, ↓reduceIte] at hM
    have hbad : a0 < nI 1 ∨ nI 500 < a0 ∨ a3 < nI 1 ∨ nI 9 < a3 ∨ a1 < 0 ∨ nI 24 ≤ a1 ∨ a2 < 0 ∨ nI 24 ≤ a2 := by
      cases c0 : inB a0 (nI 1) (nI 500)
      · rcases inB_no c0 with h | h
        · exact Or.inl h
        · exact Or.inr (Or.inl h)
      cases c3 : inB a3 (nI 1) (nI 9)
      · rcases inB_no c3 with h | h
        · exact Or.inr (Or.inr (Or.inl h))
        · exact Or.inr (Or.inr (Or.inr (Or.inl h)))
      cases c1 : inB a1 (nI 0) (nI 23)
      · rcases in0n (by decide) c1 with h | h
        · exact Or.inr (Or.inr (Or.inr (Or.inr (Or.inl h))))
        · exact Or.inr (Or.inr (Or.inr (Or.inr (Or.inr (Or.inl h)))))
      cases c2 : inB a2 (nI 0) (nI 23)
      · rcases in0n (by decide) c2 with h | h
        · exact Or.inr (Or.inr (Or.inr (Or.inr (Or.inr (Or.inr (Or.inl h))))))
        · exact Or.inr (Or.inr (Or.inr (Or.inr (Or.inr (Or.inr (Or.inr h))))))
      exact absurd (by rw [c0, c1, c2, c3]; rfl) c
    exact step_of (mL_stall_EA rfl (by decide) (by decide) (mX5_stall_tA l hlt D ct ad Ms kp nx sz B A tn p9 kd a0 a1 a2 a3 hbad)) hM (upd_s.trans (by decide)) (fun h => absurd h (by decide)) (hR.congr (fun _ _ => rfl) (upd_n (by omega)) (upd_n (by omega)) (fun _ _ _ => rfl))
theorem st_plug (l : Launch) (hlt : l.stackTraces = false) (D : va_G) (ct : Nat → ClassId) (cL : ClassId) (ad ad6 : Nat → Nat) (a0 : Int32) (a1 : Int32) : Step l D ct cL ad ad6 yL_plug cL_plug 5 [(0, 10, 13, 21), (0, 10, 17, 13), (0, 10, 21, 15)] [.int a0, .int a1] yX6_plug cX6_plug 4 3 67 := by
  intro ce ce6 v9 hC
  obtain ⟨Ms, kp, nx, sz, B, A, tn, p9, kd, Z, g, hs, F, n, rfl, rfl, hR⟩ := hC
  obtain ⟨he, hr, hnx, hsz, hg3, hg8, htn, hB, hF6, hsl, hri⟩ := id hR
  have hO := hr.1
  have hz := oI_zW hO
  have hw := oI_mW (oI_eq hO he)
  have hbw := oI_bW (oI_eq hO he)
  have hn10 := hz.1
  cases c : stB Z a0
  · have ht : wnp Z n a0 a1 = 1 := by unfold wnp; rw [if_pos c]
    have hM := m6_plug l D ct ad6 Z g hs F a0 a1 n sz hz hg3 hsz
    rw [ht] at hM
    simp only [if10, ↓reduceIte] at hM
    exact step_of (mL_plug_EI rfl (by decide) (by decide) (mX5_plug_tI l hlt D ct ad Ms kp nx sz B A tn p9 kd a0 a1 n hw (stB_no hz c))) hM (upd_s.trans (by decide)) (fun h => absurd h (by decide)) (hR.congr (fun _ _ => rfl) (upd_n (by omega)) (upd_n (by omega)) (fun _ _ _ => rfl))
  · obtain ⟨k0, rfl, hk0⟩ : ∃ k0, a0 = nI k0 ∧ k0 < n := ⟨iN a0, (stB_yes hz c).1, (stB_yes hz c).2⟩
    have ek : iN (nI k0) = k0 := nI_iN (by omega) rfl
    have c' : ¬ stB Z (nI k0) = false := by rw [c]; decide
    cases d : inB a1 (nI 0) (nI 11)
    · have ht : wnp Z n (nI k0) a1 = 2 := by unfold wnp; rw [if_neg c', z11, if_pos d]
      have hM := m6_plug l D ct ad6 Z g hs F (nI k0) a1 n sz hz hg3 hsz
      rw [ht] at hM
      simp only [if20, ↓reduceIte] at hM
      exact step_of (mL_plug_EA rfl (by decide) (by decide) (mX5_plug_tA l hlt D ct ad Ms kp nx sz B A tn p9 kd k0 a1 n hw hk0 (inB_no d))) hM (upd_s.trans (by decide)) (fun h => absurd h (by decide)) (hR.congr (fun _ _ => rfl) (upd_n (by omega)) (upd_n (by omega)) (fun _ _ _ => rfl))
    · obtain ⟨q, lq, uq, rfl⟩ := inB_ex (by decide) (by decide) d
      have eq : iN (nI q) = q := nI_iN (by omega) rfl
      have d' : ¬ inB (nI q) (nI 0) (nI 11) = false := by rw [d]; decide
      by_cases f : ox (satN Z (nI q) n) = -1
      · have ht : wnp Z n (nI k0) (nI q) = 0 := by unfold wnp; rw [if_neg c', z11, if_neg d', if_pos f]
        have hM := m6_plug l D ct ad6 Z g hs F (nI k0) (nI q) n sz hz hg3 hsz
        rw [ht] at hM
        simp only [if00, ↓reduceIte] at hM
        rw [ek] at hM
        exact step_of (mL_plug rfl (by decide) (by decide) (FMet.g (mX5_plug l D ct ad Ms kp nx sz B A tn p9 kd k0 q n hw hbw hnx hsz hk0 (by omega) (by rw [at_eqZ he hO hr.2.2.1 (by omega)]; exact f)))) hM ((upd_n (by omega)).trans (upd_s.trans (by decide))) (fun _ => congrArg Int32.toInt64 (he _ (by omega))) (hR.save (tn' := tn) (by rw [vup_s]; exact eqZ_upd he) (rI_plug hr hk0 (by omega) (sat_free hn10 f)) upd_s ((upd_n (by omega)).trans ((upd_n (by omega)).trans hg8)) (Nat.le_refl _) ((va_up_ne _ _ (by omega)).trans (vup_s _ _ _)) (fun j h0 _ h4 => (va_up_ne _ _ h0).trans (va_up_ne _ _ h4)) (vup_s _ _ _) (fun j h2 _ _ => va_up_ne _ _ h2))
      · have ht : wnp Z n (nI k0) (nI q) = 3 := by unfold wnp; rw [if_neg c', z11, if_neg d', if_neg f]
        have hM := m6_plug l D ct ad6 Z g hs F (nI k0) (nI q) n sz hz hg3 hsz
        rw [ht] at hM
        simp only [if30, ↓reduceIte] at hM
        exact step_of (mL_plug_ES rfl (by decide) (by decide) (mX5_plug_tS l hlt D ct ad Ms kp nx sz B A tn p9 kd k0 q n hw hk0 (by omega) (by rw [at_eqZ he hO hr.2.2.1 (by omega)]; exact f))) hM (upd_s.trans (by decide)) (fun h => absurd h (by decide)) (hR.congr (fun _ _ => rfl) (upd_n (by omega)) (upd_n (by omega)) (fun _ _ _ => rfl))
theorem st_pull (l : Launch) (hlt : l.stackTraces = false) (D : va_G) (ct : Nat → ClassId) (cL : ClassId) (ad ad6 : Nat → Nat) (a0 : Int32) : Step l D ct cL ad ad6 yL_pull cL_pull 4 [(0, 9, 12, 21), (0, 9, 15, 15)] [.int a0] yX6_pull cX6_pull 3 1 23 := by
  intro ce ce6 v9 hC
  obtain ⟨Ms, kp, nx, sz, B, A, tn, p9, kd, Z, g, hs, F, n, rfl, rfl, hR⟩ := hC
  obtain ⟨he, hr, hnx, hsz, hg3, hg8, htn, hB, hF6, hsl, hri⟩ := id hR
  have hO := hr.1
  have hz := oI_zW hO
  have hw := oI_mW (oI_eq hO he)
  have hbw := oI_bW (oI_eq hO he)
  have hn10 := hz.1
  cases c : stB Z a0
  · have ht : tPull Z a0 = 1 := by unfold tPull; rw [if_neg (by rw [c]; decide)]
    have hM := m6_pull l D ct ad6 Z g hs F a0 n sz hz hg3 hsz
    rw [ht] at hM
    simp only [if10, ↓reduceIte] at hM
    exact step_of (mL_pull_EI rfl (by decide) (by decide) (mX5_pull_tI l hlt D ct ad Ms kp nx sz B A tn p9 kd a0 n hw (stB_no hz c))) hM (upd_s.trans (by decide)) (fun h => absurd h (by decide)) (hR.congr (fun _ _ => rfl) (upd_n (by omega)) (upd_n (by omega)) (fun _ _ _ => rfl))
  · obtain ⟨k0, rfl, hk0⟩ : ∃ k0, a0 = nI k0 ∧ k0 < n := ⟨iN a0, (stB_yes hz c).1, (stB_yes hz c).2⟩
    have ek : iN (nI k0) = k0 := nI_iN (by omega) rfl
    by_cases d : Z (39 + 8 * k0 + 4) = -1
    · have ht : tPull Z (nI k0) = 2 := by unfold tPull; rw [if_pos c, ek, if_pos d]
      have hM := m6_pull l D ct ad6 Z g hs F (nI k0) n sz hz hg3 hsz
      rw [ht] at hM
      simp only [if20, ↓reduceIte] at hM
      exact step_of (mL_pull_ES rfl (by decide) (by decide) (mX5_pull_tS l hlt D ct ad Ms kp nx sz B A tn p9 kd k0 n hw hk0 ((he _ (by omega)).trans d))) hM (upd_s.trans (by decide)) (fun h => absurd h (by decide)) (hR.congr (fun _ _ => rfl) (upd_n (by omega)) (upd_n (by omega)) (fun _ _ _ => rfl))
    · have ht : tPull Z (nI k0) = 0 := by unfold tPull; rw [if_pos c, ek, if_neg d]
      have hM := m6_pull l D ct ad6 Z g hs F (nI k0) n sz hz hg3 hsz
      rw [ht] at hM
      simp only [if00, ↓reduceIte] at hM
      rw [ek] at hM
      exact step_of (mL_pull rfl (by decide) (by decide) (FMet.g (mX5_pull l D ct ad Ms kp nx sz B A tn p9 kd k0 n hw hbw hnx hsz hk0 (fun q => d ((he _ (by omega)).symm.trans q))))) hM ((upd_n (by omega)).trans (upd_s.trans (by decide))) (fun _ => congrArg Int32.toInt64 (he _ (by omega))) (hR.save (tn' := tn) (by rw [vup_s]; exact eqZ_upd he) (rI_pull hr hk0) upd_s ((upd_n (by omega)).trans ((upd_n (by omega)).trans hg8)) (Nat.le_refl _) ((va_up_ne _ _ (by omega)).trans (vup_s _ _ _)) (fun j h0 _ h4 => (va_up_ne _ _ h0).trans (va_up_ne _ _ h4)) (vup_s _ _ _) (fun j h2 _ _ => va_up_ne _ _ h2))
theorem st_shed (l : Launch) (hlt : l.stackTraces = false) (D : va_G) (ct : Nat → ClassId) (cL : ClassId) (ad ad6 : Nat → Nat) (a0 : Int32) : Step l D ct cL ad ad6 yL_shed cL_shed 4 [(0, 9, 12, 21)] [.int a0] yX6_shed cX6_shed 2 1 23 := by
  intro ce ce6 v9 hC
  obtain ⟨Ms, kp, nx, sz, B, A, tn, p9, kd, Z, g, hs, F, n, rfl, rfl, hR⟩ := hC
  obtain ⟨he, hr, hnx, hsz, hg3, hg8, htn, hB, hF6, hsl, hri⟩ := id hR
  have hO := hr.1
  have hz := oI_zW hO
  have hw := oI_mW (oI_eq hO he)
  have hbw := oI_bW (oI_eq hO he)
  have hn10 := hz.1
  cases c : stB Z a0
  · have ht : tShed Z a0 = 1 := by unfold tShed; rw [if_neg (by rw [c]; decide)]
    have hM := m6_shed l D ct ad6 Z g hs F a0 n sz hz hg3 hsz
    rw [ht] at hM
    simp only [if10, ↓reduceIte] at hM
    exact step_of (mL_shed_EI rfl (by decide) (by decide) (mX5_shed_tI l hlt D ct ad Ms kp nx sz B A tn p9 kd a0 n hw (stB_no hz c))) hM (upd_s.trans (by decide)) (fun h => absurd h (by decide)) (hR.congr (fun _ _ => rfl) (upd_n (by omega)) (upd_n (by omega)) (fun _ _ _ => rfl))
  · obtain ⟨k0, rfl, hk0⟩ : ∃ k0, a0 = nI k0 ∧ k0 < n := ⟨iN a0, (stB_yes hz c).1, (stB_yes hz c).2⟩
    have ek : iN (nI k0) = k0 := nI_iN (by omega) rfl
    have ht : tShed Z (nI k0) = 0 := by unfold tShed; rw [if_pos c]
    have hM := m6_shed l D ct ad6 Z g hs F (nI k0) n sz hz hg3 hsz
    rw [ht] at hM
    simp only [if00, ↓reduceIte] at hM
    rw [ek] at hM
    have e5 : Ms 0 (39 + 8 * k0 + 5) = Z (39 + 8 * k0 + 5) := he _ (by omega)
    have fl := flip_eq ((oI_bW hO).1 k0 hk0)
    have hC := mX5_shed l D ct ad Ms kp nx sz B A tn p9 kd k0 n hw hbw hnx hsz hk0
    rw [e5, fl.1] at hC
    exact step_of (mL_shed rfl (by decide) (by decide) (FMet.g (hC))) hM ((upd_n (by omega)).trans (upd_s.trans (by decide))) (fun _ => congrArg Int32.toInt64 (rfl)) (hR.save (tn' := tn) (by rw [vup_s]; exact eqZ_upd he) (rI_shed hr hk0 fl.2) upd_s ((upd_n (by omega)).trans ((upd_n (by omega)).trans hg8)) (Nat.le_refl _) ((va_up_ne _ _ (by omega)).trans (vup_s _ _ _)) (fun j h0 _ h4 => (va_up_ne _ _ h0).trans (va_up_ne _ _ h4)) (vup_s _ _ _) (fun j h2 _ _ => va_up_ne _ _ h2))
theorem st_bound (l : Launch) (hlt : l.stackTraces = false) (D : va_G) (ct : Nat → ClassId) (cL : ClassId) (ad ad6 : Nat → Nat) (a0 : Int32) (a1 : Int32) : Step l D ct cL ad ad6 yL_bound cL_bound 5 [(0, 10, 13, 13)] [.int a0, .int a1] yX6_bound cX6_bound 4 2 42 := by
  intro ce ce6 v9 hC
  obtain ⟨Ms, kp, nx, sz, B, A, tn, p9, kd, Z, g, hs, F, n, rfl, rfl, hR⟩ := hC
  obtain ⟨he, hr, hnx, hsz, hg3, hg8, htn, hB, hF6, hsl, hri⟩ := id hR
  have hO := hr.1
  have hz := oI_zW hO
  have hw := oI_mW (oI_eq hO he)
  have hbw := oI_bW (oI_eq hO he)
  have hn10 := hz.1
  cases c : inB a0 (nI 0) (nI 3)
  · have ht : tBound a0 a1 = 1 := by unfold tBound; rw [z3, c]; rfl
    have hM := m6_bound l D ct ad6 Z g hs F a0 a1 sz hg3 hsz
    rw [ht] at hM
    simp only [if10, ↓reduceIte] at hM
    exact step_of (mL_bound_EA rfl (by decide) (by decide) (mX5_bound_tA l hlt D ct ad Ms kp nx sz B A tn p9 kd a0 a1 (inB_no c))) hM (upd_s.trans (by decide)) (fun h => absurd h (by decide)) (hR.congr (fun _ _ => rfl) (upd_n (by omega)) (upd_n (by omega)) (fun _ _ _ => rfl))
  · obtain ⟨b, lb, ub, rfl⟩ := inB_ex (by decide) (by decide) c
    have eb : iN (nI b) = b := nI_iN (by omega) rfl
    cases d : inB a1 (nI 10) (nI 999)
    · have ht : tBound (nI b) a1 = 1 := by unfold tBound; rw [z3, c, d]; rfl
      have hM := m6_bound l D ct ad6 Z g hs F (nI b) a1 sz hg3 hsz
      rw [ht] at hM
      simp only [if10, ↓reduceIte] at hM
      exact step_of (mL_bound_EA rfl (by decide) (by decide) (mX5_bound_tA2 l hlt D ct ad Ms kp nx sz B A tn p9 kd b a1 (by omega) (inB_no d))) hM (upd_s.trans (by decide)) (fun h => absurd h (by decide)) (hR.congr (fun _ _ => rfl) (upd_n (by omega)) (upd_n (by omega)) (fun _ _ _ => rfl))
    · have ht : tBound (nI b) a1 = 0 := by unfold tBound; rw [z3, c, d]; rfl
      have hM := m6_bound l D ct ad6 Z g hs F (nI b) a1 sz hg3 hsz
      rw [ht] at hM
      simp only [if00, ↓reduceIte] at hM
      rw [eb] at hM
      exact step_of (mL_bound rfl (by decide) (by decide) (FMet.g (mX5_bound l D ct ad Ms kp nx sz B A tn p9 kd b a1 n hw hbw hnx hsz (by omega) (inB_yes d).1 (inB_yes d).2))) hM ((upd_n (by omega)).trans (upd_s.trans (by decide))) (fun _ => congrArg Int32.toInt64 (he _ (by omega))) (hR.save (tn' := tn) (by rw [vup_s]; exact eqZ_upd he) (rI_bound hr (by omega) d) upd_s ((upd_n (by omega)).trans ((upd_n (by omega)).trans hg8)) (Nat.le_refl _) ((va_up_ne _ _ (by omega)).trans (vup_s _ _ _)) (fun j h0 _ h4 => (va_up_ne _ _ h0).trans (va_up_ne _ _ h4)) (vup_s _ _ _) (fun j h2 _ _ => va_up_ne _ _ h2))
theorem st_reset (l : Launch) (hlt : l.stackTraces = false) (D : va_G) (ct : Nat → ClassId) (cL : ClassId) (ad ad6 : Nat → Nat) (a0 : Int32) : Step l D ct cL ad ad6 yL_reset cL_reset 4 [(0, 9, 12, 13), (0, 9, 15, 15)] [.int a0] yX6_reset cX6_reset 2 4 90 := by
  intro ce ce6 v9 hC
  obtain ⟨Ms, kp, nx, sz, B, A, tn, p9, kd, Z, g, hs, F, n, rfl, rfl, hR⟩ := hC
  obtain ⟨he, hr, hnx, hsz, hg3, hg8, htn, hB, hF6, hsl, hri⟩ := id hR
  have hO := hr.1
  have hz := oI_zW hO
  have hw := oI_mW (oI_eq hO he)
  have hbw := oI_bW (oI_eq hO he)
  have hn10 := hz.1
  cases c : inB a0 (nI 0) (nI 3)
  · have ht : tReset Z a0 = 1 := by unfold tReset; rw [z3, if_neg (by rw [c]; decide)]
    have hM := m6_reset l D ct ad6 Z g hs F a0 n sz hz hg3 hsz
    rw [ht] at hM
    simp only [if10, ↓reduceIte] at hM
    exact step_of (mL_reset_EA rfl (by decide) (by decide) (mX5_reset_tA l hlt D ct ad Ms kp nx sz B A tn p9 kd a0 (inB_no c))) hM (upd_s.trans (by decide)) (fun h => absurd h (by decide)) (hR.congr (fun _ _ => rfl) (upd_n (by omega)) (upd_n (by omega)) (fun _ _ _ => rfl))
  · obtain ⟨b, lb, ub, rfl⟩ := inB_ex (by decide) (by decide) c
    have eb : iN (nI b) = b := nI_iN (by omega) rfl
    have e1 : Ms 0 (7 + 5 * b + 1) = Z (7 + 5 * b + 1) := he _ (by omega)
    by_cases d : Z (7 + 5 * b + 1) = nI 1
    · have ht : tReset Z (nI b) = 2 := by unfold tReset; rw [z3, if_pos c, eb, if_pos d]
      have hM := m6_reset l D ct ad6 Z g hs F (nI b) n sz hz hg3 hsz
      rw [ht] at hM
      simp only [if20, ↓reduceIte] at hM
      exact step_of (mL_reset_ES rfl (by decide) (by decide) (mX5_reset_tS l hlt D ct ad Ms kp nx sz B A tn p9 kd b n hw (by omega) (by rw [e1, d]; decide))) hM (upd_s.trans (by decide)) (fun h => absurd h (by decide)) (hR.congr (fun _ _ => rfl) (upd_n (by omega)) (upd_n (by omega)) (fun _ _ _ => rfl))
    · have ht : tReset Z (nI b) = 0 := by unfold tReset; rw [z3, if_pos c, eb, if_neg d]
      have hM := m6_reset l D ct ad6 Z g hs F (nI b) n sz hz hg3 hsz
      rw [ht] at hM
      simp only [if00, ↓reduceIte] at hM
      rw [eb] at hM
      have ho := (rI_pon hr (b := b) (by omega)).1
      exact step_of (mL_reset rfl (by decide) (by decide) (FMet.g (mX5_reset l D ct ad Ms kp nx sz B A tn p9 kd b n hw hbw hnx hsz (by omega) (by rw [e1]; exact ((oI_bW hO).2.1 b (by omega)).resolve_right (fun q => d (q.trans (by decide))))))) hM ((upd_n (by omega)).trans (upd_s.trans (by decide))) (fun _ => congrArg Int32.toInt64 (drs_eq (pon_eq he) (oI_zW ho) (oI_bW ho) (by omega) n (Nat.le_refl n))) (hR.save (tn' := tn) (by rw [vup_s]; exact pon_eq he) (rI_pon hr (by omega)) upd_s ((upd_n (by omega)).trans ((upd_n (by omega)).trans hg8)) (Nat.le_refl _) ((va_up_ne _ _ (by omega)).trans (vup_s _ _ _)) (fun j h0 _ h4 => (va_up_ne _ _ h0).trans (va_up_ne _ _ h4)) (vup_s _ _ _) (fun j h2 _ _ => va_up_ne _ _ h2))
theorem st_over (l : Launch) (hlt : l.stackTraces = false) (D : va_G) (ct : Nat → ClassId) (cL : ClassId) (ad ad6 : Nat → Nat) (a0 : Int32) : Step l D ct cL ad ad6 yL_over cL_over 4 [(0, 9, 12, 13)] [.int a0] yX6_over cX6_over 2 1 22 := by
  intro ce ce6 v9 hC
  obtain ⟨Ms, kp, nx, sz, B, A, tn, p9, kd, Z, g, hs, F, n, rfl, rfl, hR⟩ := hC
  obtain ⟨he, hr, hnx, hsz, hg3, hg8, htn, hB, hF6, hsl, hri⟩ := id hR
  have hO := hr.1
  have hz := oI_zW hO
  have hw := oI_mW (oI_eq hO he)
  have hbw := oI_bW (oI_eq hO he)
  have hn10 := hz.1
  cases c : inB a0 (nI 0) (nI 8)
  · have ht : tOver a0 = 1 := by unfold tOver; rw [if_neg (by rw [c]; decide)]
    have hM := m6_over l D ct ad6 Z g hs F a0 sz hg3 hsz
    rw [ht] at hM
    simp only [if10, ↓reduceIte] at hM
    exact step_of (mL_over_EA rfl (by decide) (by decide) (mX5_over_tA l hlt D ct ad Ms kp nx sz B A tn p9 kd a0 (inB_no c))) hM (upd_s.trans (by decide)) (fun h => absurd h (by decide)) (hR.congr (fun _ _ => rfl) (upd_n (by omega)) (upd_n (by omega)) (fun _ _ _ => rfl))
  · obtain ⟨q, lq, uq, rfl⟩ := inB_ex (by decide) (by decide) c
    have eq : iN (nI q) = q := nI_iN (by omega) rfl
    have ht : tOver (nI q) = 0 := by unfold tOver; rw [if_pos c]
    have hM := m6_over l D ct ad6 Z g hs F (nI q) sz hg3 hsz
    rw [ht] at hM
    simp only [if00, ↓reduceIte] at hM
    rw [eq] at hM
    have e5 : Ms 0 (27 + q) = Z (27 + q) := he _ (by omega)
    have fl := flip_eq ((oI_bW hO).2.2 q (by omega))
    have hC := mX5_over l D ct ad Ms kp nx sz B A tn p9 kd q n hw hbw hnx hsz (by omega)
    rw [e5, fl.1] at hC
    have hr2 := rI_over hr (q := q) (by omega) fl.2
    exact step_of (mL_over rfl (by decide) (by decide) (FMet.g (hC))) hM ((upd_n (by omega)).trans (upd_s.trans (by decide))) (fun _ => congrArg Int32.toInt64 (brq_eq (eqZ_upd he) (oI_bW hr2.1) (by omega))) (hR.save (tn' := tn) (by rw [vup_s]; exact eqZ_upd he) (hr2) upd_s ((upd_n (by omega)).trans ((upd_n (by omega)).trans hg8)) (Nat.le_refl _) ((va_up_ne _ _ (by omega)).trans (vup_s _ _ _)) (fun j h0 _ h4 => (va_up_ne _ _ h0).trans (va_up_ne _ _ h4)) (vup_s _ _ _) (fun j h2 _ _ => va_up_ne _ _ h2))
theorem st_pass (l : Launch) (hlt : l.stackTraces = false) (D : va_G) (ct : Nat → ClassId) (cL : ClassId) (ad ad6 : Nat → Nat) (a0 : Int32) : Step l D ct cL ad ad6 yL_pass cL_pass 4 [(0, 9, 12, 13), (0, 9, 15, 15)] [.int a0] yX6_pass cX6_pass 2 7 158 := by
  intro ce ce6 v9 hC
  obtain ⟨Ms, kp, nx, sz, B, A, tn, p9, kd, Z, g, hs, F, n, rfl, rfl, hR⟩ := hC
  obtain ⟨he, hr, hnx, hsz, hg3, hg8, htn, hB, hF6, hsl, hri⟩ := id hR
  have hO := hr.1
  have hz := oI_zW hO
  have hw := oI_mW (oI_eq hO he)
  have hbw := oI_bW (oI_eq hO he)
  have hn10 := hz.1
  cases c : inB a0 (nI 1) (nI 48)
  · have ht : tPass Z a0 = 1 := by unfold tPass; rw [if_neg (by rw [c]; decide)]
    have hM := m6_pass l D ct ad6 Z g hs F a0 n sz hz hg3 hsz
    rw [ht] at hM
    simp only [if10, ↓reduceIte] at hM
    exact step_of (mL_pass_EA rfl (by decide) (by decide) (mX5_pass_tA l hlt D ct ad Ms kp nx sz B A tn p9 kd a0 (inB_no c))) hM (upd_s.trans (by decide)) (fun h => absurd h (by decide)) (hR.congr (fun _ _ => rfl) (upd_n (by omega)) (upd_n (by omega)) (fun _ _ _ => rfl))
  · obtain ⟨t, lt, ut, rfl⟩ := inB_ex (by decide) (by decide) c
    have et : iN (nI t) = t := nI_iN (by omega) rfl
    have e3 : Ms 0 3 = Z 3 := he _ (by omega)
    by_cases d : Z 3 + nI t ≤ nI 9999
    · have ht : tPass Z (nI t) = 0 := by unfold tPass; rw [if_pos c, if_pos d]
      have hM := m6_pass l D ct ad6 Z g hs F (nI t) n sz hz hg3 hsz
      rw [ht] at hM
      simp only [if00, ↓reduceIte] at hM
      rw [et] at hM
      exact step_of (mL_pass rfl (by decide) (by decide) (FMet.g (mX5_pass l D ct ad Ms kp nx sz B A tn p9 kd t n hw hbw hnx hsz lt ut (by rw [e3]; exact d)))) hM ((upd_n (by omega)).trans (upd_s.trans (by decide))) (fun _ => congrArg Int32.toInt64 (pass_eq he hO hr.2.1)) (hR.save (tn' := tn) (by rw [vup_s]; exact (hs_all he hO hr.2.1 t).1) (rI_hs hr ut d) upd_s ((upd_n (by omega)).trans ((upd_n (by omega)).trans hg8)) (Nat.le_refl _) ((va_up_ne _ _ (by omega)).trans (vup_s _ _ _)) (fun j h0 _ h4 => (va_up_ne _ _ h0).trans (va_up_ne _ _ h4)) (vup_s _ _ _) (fun j h2 _ _ => va_up_ne _ _ h2))
    · have ht : tPass Z (nI t) = 2 := by unfold tPass; rw [if_pos c, if_neg d]
      have hM := m6_pass l D ct ad6 Z g hs F (nI t) n sz hz hg3 hsz
      rw [ht] at hM
      simp only [if20, ↓reduceIte] at hM
      exact step_of (mL_pass_ES rfl (by decide) (by decide) (mX5_pass_tS l hlt D ct ad Ms kp nx sz B A tn p9 kd t n hw lt ut (by rw [e3]; exact d))) hM (upd_s.trans (by decide)) (fun h => absurd h (by decide)) (hR.congr (fun _ _ => rfl) (upd_n (by omega)) (upd_n (by omega)) (fun _ _ _ => rfl))
theorem flag01 {v : Int32} (h : inB v (nI 0) (nI 1) = true) : v = 0 ∨ v = 1 := by
  obtain ⟨a, h1, h2, rfl⟩ := inB_ex (by decide) (by decide) h
  rcases (show a = 0 ∨ a = 1 by omega) with rfl | rfl
  · exact Or.inl (by decide)
  · exact Or.inr (by decide)
theorem st_set (l : Launch) (hlt : l.stackTraces = false) (D : va_G) (ct : Nat → ClassId) (cL : ClassId) (ad ad6 : Nat → Nat) (a0 : Int32) (a1 : Int32) : Step l D ct cL ad ad6 yL_set cL_set 5 [(0, 10, 13, 21), (0, 10, 17, 13)] [.int a0, .int a1] yX6_set cX6_set 4 2 43 := by
  intro ce ce6 v9 hC
  obtain ⟨Ms, kp, nx, sz, B, A, tn, p9, kd, Z, g, hs, F, n, rfl, rfl, hR⟩ := hC
  obtain ⟨he, hr, hnx, hsz, hg3, hg8, htn, hB, hF6, hsl, hri⟩ := id hR
  have hO := hr.1
  have hz := oI_zW hO
  have hw := oI_mW (oI_eq hO he)
  have hbw := oI_bW (oI_eq hO he)
  have hn10 := hz.1
  cases c : inB a0 (nI 0) (nI 2)
  · have ht : tSet a0 a1 = 1 := by unfold tSet; rw [if_neg (by rw [c]; decide)]
    have hM := m6_set l D ct ad6 Z g hs F a0 a1 sz hg3 hsz
    rw [ht] at hM
    simp only [if10, ↓reduceIte] at hM
    exact step_of (mL_set_EI rfl (by decide) (by decide) (mX5_set_tI l hlt D ct ad Ms kp nx sz B A tn p9 kd a0 a1 (in0n (by decide) c))) hM (upd_s.trans (by decide)) (fun h => absurd h (by decide)) (hR.congr (fun _ _ => rfl) (upd_n (by omega)) (upd_n (by omega)) (fun _ _ _ => rfl))
  · obtain ⟨w, lw, uw, rfl⟩ := inB_ex (by decide) (by decide) c
    have ew : iN (nI w) = w := nI_iN (by omega) rfl
    rcases (show w = 0 ∨ w = 1 ∨ w = 2 by omega) with rfl | rfl | rfl
    · have ei : isvB (nI 0) a1 = inB a1 (nI 1) (nI 9) := by unfold isvB; exact if_pos (by decide)
      cases d : inB a1 (nI 1) (nI 9)
      · have ht : tSet (nI 0) a1 = 2 := by unfold tSet; rw [if_pos c, ei, d]; rfl
        have hM := m6_set l D ct ad6 Z g hs F (nI 0) a1 sz hg3 hsz
        rw [ht] at hM
        simp only [if20, ↓reduceIte] at hM
        exact step_of (mL_set_EA rfl (by decide) (by decide) (mX5_set_tA0 l hlt D ct ad Ms kp nx sz B A tn p9 kd a1 (inB_no d))) hM (upd_s.trans (by decide)) (fun h => absurd h (by decide)) (hR.congr (fun _ _ => rfl) (upd_n (by omega)) (upd_n (by omega)) (fun _ _ _ => rfl))
      · have ht : tSet (nI 0) a1 = 0 := by unfold tSet; rw [if_pos c, ei, d]; rfl
        have hM := m6_set l D ct ad6 Z g hs F (nI 0) a1 sz hg3 hsz
        rw [ht] at hM
        simp only [if00, ↓reduceIte] at hM
        rw [ew] at hM
        exact step_of (mL_set rfl (by decide) (by decide) (mX5_set l D ct ad Ms kp nx sz B A tn p9 kd 0 a1 n hw hbw hnx hsz (by decide) (inB_yes d).1 (inB_yes d).2)) hM ((upd_n (by omega)).trans (upd_s.trans (by decide))) (fun _ => congrArg Int32.toInt64 (he _ (by omega))) (hR.save (tn' := tn) (by rw [vup_s]; exact eqZ_upd he) (rI_set hr (by decide) (fun _ => d) (fun q => absurd q (by decide))) upd_s ((upd_n (by omega)).trans ((upd_n (by omega)).trans hg8)) (Nat.le_refl _) ((va_up_ne _ _ (by omega)).trans (vup_s _ _ _)) (fun j h0 _ h4 => (va_up_ne _ _ h0).trans (va_up_ne _ _ h4)) (vup_s _ _ _) (fun j h2 _ _ => va_up_ne _ _ h2))
    · have ei : isvB (nI 1) a1 = inB a1 (nI 0) (nI 1) := by unfold isvB; rw [if_neg (by decide)]; exact if_pos rfl
      cases d : inB a1 (nI 0) (nI 1)
      · have ht : tSet (nI 1) a1 = 2 := by unfold tSet; rw [if_pos c, ei, d]; rfl
        have hM := m6_set l D ct ad6 Z g hs F (nI 1) a1 sz hg3 hsz
        rw [ht] at hM
        simp only [if20, ↓reduceIte] at hM
        exact step_of (mL_set_EA rfl (by decide) (by decide) (mX5_set_tA1 l hlt D ct ad Ms kp nx sz B A tn p9 kd a1 (inB_no d))) hM (upd_s.trans (by decide)) (fun h => absurd h (by decide)) (hR.congr (fun _ _ => rfl) (upd_n (by omega)) (upd_n (by omega)) (fun _ _ _ => rfl))
      · have ht : tSet (nI 1) a1 = 0 := by unfold tSet; rw [if_pos c, ei, d]; rfl
        have hM := m6_set l D ct ad6 Z g hs F (nI 1) a1 sz hg3 hsz
        rw [ht] at hM
        simp only [if00, ↓reduceIte] at hM
        rw [ew] at hM
        exact step_of (mL_set rfl (by decide) (by decide) (mX5_set l D ct ad Ms kp nx sz B A tn p9 kd 1 a1 n hw hbw hnx hsz (by decide) (inB_yes d).1 (inB_yes d).2)) hM ((upd_n (by omega)).trans (upd_s.trans (by decide))) (fun _ => congrArg Int32.toInt64 (he _ (by omega))) (hR.save (tn' := tn) (by rw [vup_s]; exact eqZ_upd he) (rI_set hr (by decide) (fun q => absurd q (by decide)) (fun _ => flag01 d)) upd_s ((upd_n (by omega)).trans ((upd_n (by omega)).trans hg8)) (Nat.le_refl _) ((va_up_ne _ _ (by omega)).trans (vup_s _ _ _)) (fun j h0 _ h4 => (va_up_ne _ _ h0).trans (va_up_ne _ _ h4)) (vup_s _ _ _) (fun j h2 _ _ => va_up_ne _ _ h2))
    · have ei : isvB (nI 2) a1 = inB a1 (nI 1) (nI 99) := by unfold isvB; rw [if_neg (by decide), if_neg (by decide)]
      cases d : inB a1 (nI 1) (nI 99)
      · have ht : tSet (nI 2) a1 = 2 := by unfold tSet; rw [if_pos c, ei, d]; rfl
        have hM := m6_set l D ct ad6 Z g hs F (nI 2) a1 sz hg3 hsz
        rw [ht] at hM
        simp only [if20, ↓reduceIte] at hM
        exact step_of (mL_set_EA rfl (by decide) (by decide) (mX5_set_tA2 l hlt D ct ad Ms kp nx sz B A tn p9 kd a1 (inB_no d))) hM (upd_s.trans (by decide)) (fun h => absurd h (by decide)) (hR.congr (fun _ _ => rfl) (upd_n (by omega)) (upd_n (by omega)) (fun _ _ _ => rfl))
      · have ht : tSet (nI 2) a1 = 0 := by unfold tSet; rw [if_pos c, ei, d]; rfl
        have hM := m6_set l D ct ad6 Z g hs F (nI 2) a1 sz hg3 hsz
        rw [ht] at hM
        simp only [if00, ↓reduceIte] at hM
        rw [ew] at hM
        exact step_of (mL_set rfl (by decide) (by decide) (mX5_set l D ct ad Ms kp nx sz B A tn p9 kd 2 a1 n hw hbw hnx hsz (by decide) (inB_yes d).1 (inB_yes d).2)) hM ((upd_n (by omega)).trans (upd_s.trans (by decide))) (fun _ => congrArg Int32.toInt64 (he _ (by omega))) (hR.save (tn' := tn) (by rw [vup_s]; exact eqZ_upd he) (rI_set hr (by decide) (fun q => absurd q (by decide)) (fun q => absurd q (by decide))) upd_s ((upd_n (by omega)).trans ((upd_n (by omega)).trans hg8)) (Nat.le_refl _) ((va_up_ne _ _ (by omega)).trans (vup_s _ _ _)) (fun j h0 _ h4 => (va_up_ne _ _ h0).trans (va_up_ne _ _ h4)) (vup_s _ _ _) (fun j h2 _ _ => va_up_ne _ _ h2))
