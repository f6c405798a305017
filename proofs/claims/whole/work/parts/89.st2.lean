/-! STEP BY STEP: the plan, the slots, the looks -/
theorem st_append (l : Launch) (hlt : l.stackTraces = false) (D : va_G) (ct : Nat → ClassId) (cL : ClassId) (ad ad6 : Nat → Nat) (a0 : Int32) : Step l D ct cL ad ad6 yL_append cL_append 4 [(0, 9, 12, 13), (0, 9, 15, 15)] [.int a0] yX6_append cX6_append 2 1 22 := by
  intro ce ce6 v9 hC
  obtain ⟨Ms, kp, nx, sz, B, A, tn, p9, kd, Z, g, hs, F, n, rfl, rfl, hR⟩ := hC
  obtain ⟨he, hr, hnx, hsz, hg3, hg8, htn, hB, hF6, hsl, hri⟩ := id hR
  have hO := hr.1
  have hz := oI_zW hO
  have hw := oI_mW (oI_eq hO he)
  have hbw := oI_bW (oI_eq hO he)
  have hn10 := hz.1
  cases c : inB a0 (nI 33) (nI 126)
  · have ht : tApp a0 tn = 1 := by unfold tApp; rw [if_neg (by rw [c]; decide)]
    have hM := m6_append l D ct ad6 Z g hs F a0 tn hg8 htn
    rw [ht] at hM
    simp only [if10, ↓reduceIte] at hM
    exact step_of (mL_append_EA rfl (by decide) (by decide) (mX5_append_tA l hlt D ct ad Ms kp nx sz B A tn p9 kd a0 (inB_no c))) hM (upd_s.trans (by decide)) (fun h => absurd h (by decide)) (hR.congr (fun _ _ => rfl) (upd_n (by omega)) (upd_n (by omega)) (fun _ _ _ => rfl))
  · obtain ⟨c9, lc9, uc9, rfl⟩ := inB_ex (by decide) (by decide) c
    have ec9 : iN (nI c9) = c9 := nI_iN (by omega) rfl
    by_cases d : tn = 60
    · have ht : tApp (nI c9) tn = 2 := by unfold tApp; rw [if_pos c, if_pos d]
      have hM := m6_append l D ct ad6 Z g hs F (nI c9) tn hg8 htn
      rw [ht] at hM
      simp only [if20, ↓reduceIte] at hM
      exact step_of (mL_append_ES rfl (by decide) (by decide) (mX5_append_tS l hlt D ct ad Ms kp nx sz B A tn p9 kd c9 d lc9 uc9)) hM (upd_s.trans (by decide)) (fun h => absurd h (by decide)) (hR.congr (fun _ _ => rfl) (upd_n (by omega)) (upd_n (by omega)) (fun _ _ _ => rfl))
    · have ht : tApp (nI c9) tn = 0 := by unfold tApp; rw [if_pos c, if_neg d]
      have hM := m6_append l D ct ad6 Z g hs F (nI c9) tn hg8 htn
      rw [ht] at hM
      simp only [if00, ↓reduceIte] at hM
      exact step_of (mL_append rfl (by decide) (by decide) (FMet.g (mX5_append l D ct ad Ms kp nx sz B A tn p9 kd c9 (by omega) lc9 uc9))) hM ((upd_n (by omega)).trans (upd_s.trans (by decide))) (fun _ => rfl) (hR.app (by omega) ⟨c9, lc9, uc9, rfl⟩ ((upd_n (by omega)).trans (upd_n (by omega))) upd_s (vup_s _ _ _) (fun j h => va_up_ne _ _ h))
theorem st_open (l : Launch) (hlt : l.stackTraces = false) (D : va_G) (ct : Nat → ClassId) (cL : ClassId) (ad ad6 : Nat → Nat) : Step l D ct cL ad ad6 yL_open cL_open 3 [(0, 8, 11, 13)] [] yX6_open cX6_open 2 8 183 := by
  intro ce ce6 v9 hC
  obtain ⟨Ms, kp, nx, sz, B, A, tn, p9, kd, Z, g, hs, F, n, rfl, rfl, hR⟩ := hC
  obtain ⟨he, hr, hnx, hsz, hg3, hg8, htn, hB, hF6, hsl, hri⟩ := id hR
  have hO := hr.1
  have hz := oI_zW hO
  have hw := oI_mW (oI_eq hO he)
  have hbw := oI_bW (oI_eq hO he)
  have hn10 := hz.1
  have fe := fe_eq (B2 := B) (A := A) (O := F 7) (kd := kd) hB htn
  obtain ⟨w0, hw0⟩ : ∃ w0, pW B tn 60 0 A kd = w0 := ⟨_, rfl⟩
  rw [hw0] at fe
  have hM := m6_open l D ct ad6 Z g hs F n sz tn hz hg3 hsz hg8 htn
  by_cases c : (rbR B tn (F 7)).2.2.1 = 99
  · have ht : tOpen F tn = 0 := by unfold tOpen; rw [hF6]; exact if_pos c
    rw [ht] at hM
    simp only [if00, ↓reduceIte] at hM
    obtain ⟨o1, o2, o3, o4, o5⟩ := op_eq (A := w0.2.2.1) (kd := w0.2.2.2) hF6 hB htn c (show eqZ (va_up Ms (4 + nx) (cCp (Ms (4 + nx)) (Ms 0) n) 0) Z n by rw [va_up_ne _ _ (show 0 ≠ 4 + nx by omega)]; exact he) hr
    exact step_of (mL_open rfl (by decide) (by decide) (FMet.g (mX5_open l D ct ad Ms kp nx sz B A tn p9 kd n w0 hw0 _ rfl hw hbw hnx hsz htn (fe.2.mpr c)))) hM ((upd_n (by omega)).trans ((upd_n (by omega)).trans (upd_s.trans (by decide)))) (fun _ => congrArg Int32.toInt64 (congrArg nI o1)) (hR.save (tn' := 0) o3 o4 ((upd_n (by omega)).trans upd_s) upd_s (Nat.zero_le _) ((o5 _ (by omega)).trans (vup_s _ _ _)) (fun j h0 _ h4 => (o5 j h0).trans (va_up_ne _ _ h4)) (vup_s _ _ _) (fun j h2 _ h7 => (va_up_ne _ _ h2).trans (va_up_ne _ _ h7)))
  · have ht : tOpen F tn = 1 := by unfold tOpen; rw [hF6]; exact if_neg c
    rw [ht] at hM
    simp only [if10, ↓reduceIte] at hM
    exact step_of (mL_open_EA rfl (by decide) (by decide) (mX5_open_tA l hlt D ct ad Ms kp nx sz B A tn p9 kd w0 hw0 htn (by cases q : w0.1; rfl; exact absurd (fe.2.mp q) c))) hM (upd_s.trans (by decide)) (fun h => absurd h (by decide)) (hR.congr (fun _ _ => rfl) ((upd_n (by omega)).trans ((upd_n (by omega)).trans ((upd_n (by omega)).trans (upd_n (by omega))))) ((upd_n (by omega)).trans ((upd_n (by omega)).trans ((upd_n (by omega)).trans (upd_n (by omega))))) (fun j _ h7 => va_up_ne _ _ h7))
theorem st_keep (l : Launch) (hlt : l.stackTraces = false) (D : va_G) (ct : Nat → ClassId) (cL : ClassId) (ad ad6 : Nat → Nat) (a0 : Int32) : Step l D ct cL ad ad6 yL_keep cL_keep 4 [(0, 9, 12, 13)] [.int a0] yX6_keep cX6_keep 3 1 22 := by
  intro ce ce6 v9 hC
  obtain ⟨Ms, kp, nx, sz, B, A, tn, p9, kd, Z, g, hs, F, n, rfl, rfl, hR⟩ := hC
  obtain ⟨he, hr, hnx, hsz, hg3, hg8, htn, hB, hF6, hsl, hri⟩ := id hR
  have hO := hr.1
  have hz := oI_zW hO
  have hw := oI_mW (oI_eq hO he)
  have hbw := oI_bW (oI_eq hO he)
  have hn10 := hz.1
  cases c : inB a0 (nI 0) (nI 1)
  · have ht : tKeep a0 = 1 := by unfold tKeep; rw [if_neg (by rw [c]; decide)]
    have hM := m6_keep l D ct ad6 Z g hs F a0
    rw [ht] at hM
    simp only [if10, ↓reduceIte] at hM
    exact step_of (mL_keep_EA rfl (by decide) (by decide) (mX5_keep_tA l hlt D ct ad Ms kp nx sz B A tn p9 kd a0 (inB_no c))) hM (upd_s.trans (by decide)) (fun h => absurd h (by decide)) (hR.congr (fun _ _ => rfl) (upd_n (by omega)) (upd_n (by omega)) (fun _ _ _ => rfl))
  · obtain ⟨t, lt, ut, rfl⟩ := inB_ex (by decide) (by decide) c
    have et : iN (nI t) = t := nI_iN (by omega) rfl
    have ht : tKeep (nI t) = 0 := by unfold tKeep; rw [if_pos c]
    have hM := m6_keep l D ct ad6 Z g hs F (nI t)
    rw [ht] at hM
    simp only [if00, ↓reduceIte] at hM
    rw [et] at hM
    exact step_of (mL_keep rfl (by decide) (by decide) (FMet.g (mX5_keep l D ct ad Ms kp nx sz B A tn p9 kd t n hw hbw (by omega)))) hM (upd_s.trans (by decide)) (fun _ => congrArg Int32.toInt64 (he _ (by omega))) (hR.keep (by omega) (vup_s _ _ _) (fun j _ h => va_up_ne _ _ h) (upd_n (by omega)) (upd_n (by omega)) ((va_up_ne _ _ (by omega)).trans (vup_s _ _ _)) (vup_s _ _ _) (fun j h3 h4 _ _ => (va_up_ne _ _ h3).trans (va_up_ne _ _ h4)))
theorem st_goBack (l : Launch) (hlt : l.stackTraces = false) (D : va_G) (ct : Nat → ClassId) (cL : ClassId) (ad ad6 : Nat → Nat) (a0 : Int32) : Step l D ct cL ad ad6 yL_goBack cL_goBack 4 [(0, 9, 12, 13), (0, 9, 15, 15)] [.int a0] yX6_goBack cX6_goBack 3 1 22 := by
  intro ce ce6 v9 hC
  obtain ⟨Ms, kp, nx, sz, B, A, tn, p9, kd, Z, g, hs, F, n, rfl, rfl, hR⟩ := hC
  obtain ⟨he, hr, hnx, hsz, hg3, hg8, htn, hB, hF6, hsl, hri⟩ := id hR
  have hO := hr.1
  have hz := oI_zW hO
  have hw := oI_mW (oI_eq hO he)
  have hbw := oI_bW (oI_eq hO he)
  have hn10 := hz.1
  cases c : inB a0 (nI 0) (nI 1)
  · have ht : tBack F a0 = 1 := by unfold tBack; rw [if_neg (by rw [c]; decide)]
    have hM := m6_goBack l D ct ad6 Z g hs F a0 sz hg3 hsz
    rw [ht] at hM
    simp only [if10, ↓reduceIte] at hM
    exact step_of (mL_goBack_EA rfl (by decide) (by decide) (mX5_goBack_tA l hlt D ct ad Ms kp nx sz B A tn p9 kd a0 (inB_no c))) hM (upd_s.trans (by decide)) (fun h => absurd h (by decide)) (hR.congr (fun _ _ => rfl) (upd_n (by omega)) (upd_n (by omega)) (fun _ _ _ => rfl))
  · obtain ⟨t, lt, ut, rfl⟩ := inB_ex (by decide) (by decide) c
    have et : iN (nI t) = t := nI_iN (by omega) rfl
    obtain ⟨hk4, hk9⟩ := hsl t (by omega)
    by_cases d : F 4 t = 0
    · have ht : tBack F (nI t) = 2 := by unfold tBack; rw [if_pos c, et, if_pos d]
      have hM := m6_goBack l D ct ad6 Z g hs F (nI t) sz hg3 hsz
      rw [ht] at hM
      simp only [if20, ↓reduceIte] at hM
      exact step_of (mL_goBack_ES rfl (by decide) (by decide) (mX5_goBack_tS l hlt D ct ad Ms kp nx sz B A tn p9 kd t (by omega) (hk4.trans d))) hM (upd_s.trans (by decide)) (fun h => absurd h (by decide)) (hR.congr (fun _ _ => rfl) (upd_n (by omega)) (upd_n (by omega)) (fun _ _ _ => rfl))
    · have ht : tBack F (nI t) = 0 := by unfold tBack; rw [if_pos c, et, if_neg d]
      have hM := m6_goBack l D ct ad6 Z g hs F (nI t) sz hg3 hsz
      rw [ht] at hM
      simp only [if00, ↓reduceIte] at hM
      rw [et] at hM
      have d9 : ¬ kp t = 0 := fun q => d (hk4.symm.trans q)
      obtain ⟨nn, h1, h2⟩ := hk9 d9
      have q1 := oI_eq h2.1 h1
      exact step_of (mL_goBack rfl (by decide) (by decide) (FMet.g (mX5_goBack l D ct ad Ms kp nx sz B A tn p9 kd t n nn hw hbw hnx hsz (by omega) d9 (oI_mW q1) (oI_bW q1)))) hM ((upd_n (by omega)).trans (upd_s.trans (by decide))) (fun _ => congrArg Int32.toInt64 (cp_eq h1 3 (by omega))) (hR.save (tn' := tn) (by rw [vup_s]; exact cp_eq h1) (h2) upd_s ((upd_n (by omega)).trans ((upd_n (by omega)).trans hg8)) (Nat.le_refl _) ((va_up_ne _ _ (by omega)).trans (vup_s _ _ _)) (fun j h0 _ h4 => (va_up_ne _ _ h0).trans (va_up_ne _ _ h4)) (vup_s _ _ _) (fun j h2 _ _ => va_up_ne _ _ h2))
theorem st_undo (l : Launch) (hlt : l.stackTraces = false) (D : va_G) (ct : Nat → ClassId) (cL : ClassId) (ad ad6 : Nat → Nat) : Step l D ct cL ad ad6 yL_undo cL_undo 3 [(0, 8, 11, 15)] [] yX6_undo cX6_undo 2 0 0 := by
  intro ce ce6 v9 hC
  obtain ⟨Ms, kp, nx, sz, B, A, tn, p9, kd, Z, g, hs, F, n, rfl, rfl, hR⟩ := hC
  obtain ⟨he, hr, hnx, hsz, hg3, hg8, htn, hB, hF6, hsl, hri⟩ := id hR
  have hO := hr.1
  have hz := oI_zW hO
  have hw := oI_mW (oI_eq hO he)
  have hbw := oI_bW (oI_eq hO he)
  have hn10 := hz.1
  by_cases c : sz = 0
  · have ht : tUndo sz = 1 := by unfold tUndo; exact if_pos c
    have hM := m6_undo l D ct ad6 Z g hs F sz hg3 hsz
    rw [ht] at hM
    simp only [if10, ↓reduceIte] at hM
    exact step_of (mL_undo_ES rfl (by decide) (by decide) (mX5_undo_tS l hlt D ct ad Ms kp nx sz B A tn p9 kd c)) hM (upd_s.trans (by decide)) (fun h => absurd h (by decide)) (hR.congr (fun _ _ => rfl) (upd_n (by omega)) (upd_n (by omega)) (fun _ _ _ => rfl))
  · have ht : tUndo sz = 0 := by unfold tUndo; exact if_neg c
    have hM := m6_undo l D ct ad6 Z g hs F sz hg3 hsz
    rw [ht] at hM
    simp only [if00, ↓reduceIte] at hM
    obtain ⟨m, h1, h2, h3⟩ := hR.undo (by omega)
    have q1 := oI_eq h2.1 h1
    exact step_of (mL_undo rfl (by decide) (by decide) (FMet.g (mX5_undo l D ct ad Ms kp nx sz B A tn p9 kd m (oI_mW q1) (oI_bW q1) hnx (by omega) hsz))) hM ((upd_n (by omega)).trans (upd_s.trans (by decide))) (fun _ => rfl) (h3 (by rw [vup_s]; exact cp_eq h1) (fun j h0 _ => va_up_ne _ _ h0) upd_s ((upd_n (by omega)).trans (upd_n (by omega))))
theorem st_stallOf (l : Launch) (hlt : l.stackTraces = false) (D : va_G) (ct : Nat → ClassId) (cL : ClassId) (ad ad6 : Nat → Nat) (a0 : Int32) (a1 : Int32) : Step l D ct cL ad ad6 yL_stallOf cL_stallOf 5 [(0, 10, 13, 21), (0, 10, 17, 13)] [.int a0, .int a1] yX6_stallOf cX6_stallOf 3 4 89 := by
  intro ce ce6 v9 hC
  obtain ⟨Ms, kp, nx, sz, B, A, tn, p9, kd, Z, g, hs, F, n, rfl, rfl, hR⟩ := hC
  obtain ⟨he, hr, hnx, hsz, hg3, hg8, htn, hB, hF6, hsl, hri⟩ := id hR
  have hO := hr.1
  have hz := oI_zW hO
  have hw := oI_mW (oI_eq hO he)
  have hbw := oI_bW (oI_eq hO he)
  have hn10 := hz.1
  cases c : stB Z a0
  · have ht : tStOf Z a0 a1 = 1 := by unfold tStOf; rw [if_neg (by rw [c]; decide)]
    have hM := m6_stallOf l D ct ad6 Z g hs F a0 a1 n hz
    rw [ht] at hM
    simp only [if10, ↓reduceIte] at hM
    exact step_of (mL_stallOf_EI rfl (by decide) (by decide) (mX5_stallOf_tI l hlt D ct ad Ms kp nx sz B A tn p9 kd a0 a1 n hw (stB_no hz c))) hM (upd_s.trans (by decide)) (fun h => absurd h (by decide)) (hR.congr (fun _ _ => rfl) (upd_n (by omega)) (upd_n (by omega)) (fun _ _ _ => rfl))
  · obtain ⟨k0, rfl, hk0⟩ : ∃ k0, a0 = nI k0 ∧ k0 < n := ⟨iN a0, (stB_yes hz c).1, (stB_yes hz c).2⟩
    have ek : iN (nI k0) = k0 := nI_iN (by omega) rfl
    cases d : inB a1 (nI 0) (nI 9)
    · have ht : tStOf Z (nI k0) a1 = 2 := by unfold tStOf; rw [if_pos c, if_neg (by rw [d]; decide)]
      have hM := m6_stallOf l D ct ad6 Z g hs F (nI k0) a1 n hz
      rw [ht] at hM
      simp only [if20, ↓reduceIte] at hM
      exact step_of (mL_stallOf_EA rfl (by decide) (by decide) (mX5_stallOf_tA l hlt D ct ad Ms kp nx sz B A tn p9 kd k0 a1 n hw hk0 (inB_no d))) hM (upd_s.trans (by decide)) (fun h => absurd h (by decide)) (hR.congr (fun _ _ => rfl) (upd_n (by omega)) (upd_n (by omega)) (fun _ _ _ => rfl))
    · obtain ⟨w, lw, uw, rfl⟩ := inB_ex (by decide) (by decide) d
      have ew : iN (nI w) = w := nI_iN (by omega) rfl
      have ht : tStOf Z (nI k0) (nI w) = 0 := by unfold tStOf; rw [if_pos c, if_pos d]
      have hM := m6_stallOf l D ct ad6 Z g hs F (nI k0) (nI w) n hz
      rw [ht] at hM
      simp only [if00, ↓reduceIte] at hM
      rw [ek, ew] at hM
      exact step_of (mL_stallOf rfl (by decide) (by decide) (FMet.g (mX5_stallOf l D ct ad Ms kp nx sz B A tn p9 kd k0 w n hw hbw hk0 (by omega)))) hM (upd_s.trans (by decide)) (fun _ => congrArg Int32.toInt64 (sto_eq he hO hk0 (by omega))) (hR.congr (fun _ _ => rfl) (upd_n (by omega)) (upd_n (by omega)) (fun _ _ _ => rfl))
theorem st_breaker (l : Launch) (hlt : l.stackTraces = false) (D : va_G) (ct : Nat → ClassId) (cL : ClassId) (ad ad6 : Nat → Nat) (a0 : Int32) (a1 : Int32) : Step l D ct cL ad ad6 yL_breaker cL_breaker 5 [(0, 10, 13, 13)] [.int a0, .int a1] yX6_breaker cX6_breaker 3 5 112 := by
  intro ce ce6 v9 hC
  obtain ⟨Ms, kp, nx, sz, B, A, tn, p9, kd, Z, g, hs, F, n, rfl, rfl, hR⟩ := hC
  obtain ⟨he, hr, hnx, hsz, hg3, hg8, htn, hB, hF6, hsl, hri⟩ := id hR
  have hO := hr.1
  have hz := oI_zW hO
  have hw := oI_mW (oI_eq hO he)
  have hbw := oI_bW (oI_eq hO he)
  have hn10 := hz.1
  cases c : inB a0 (nI 0) (nI 3)
  · have ht : tBrk a0 a1 = 1 := by unfold tBrk; rw [z3, c]; rfl
    have hM := m6_breaker l D ct ad6 Z g hs F a0 a1 n hz
    rw [ht] at hM
    simp only [if10, ↓reduceIte] at hM
    exact step_of (mL_breaker_EA rfl (by decide) (by decide) (mX5_breaker_tA l hlt D ct ad Ms kp nx sz B A tn p9 kd a0 a1 (inB_no c))) hM (upd_s.trans (by decide)) (fun h => absurd h (by decide)) (hR.congr (fun _ _ => rfl) (upd_n (by omega)) (upd_n (by omega)) (fun _ _ _ => rfl))
  · obtain ⟨b, lb, ub, rfl⟩ := inB_ex (by decide) (by decide) c
    have eb : iN (nI b) = b := nI_iN (by omega) rfl
    cases d : inB a1 (nI 0) (nI 6)
    · have ht : tBrk (nI b) a1 = 1 := by unfold tBrk; rw [z3, c, d]; rfl
      have hM := m6_breaker l D ct ad6 Z g hs F (nI b) a1 n hz
      rw [ht] at hM
      simp only [if10, ↓reduceIte] at hM
      exact step_of (mL_breaker_EA rfl (by decide) (by decide) (mX5_breaker_tA2 l hlt D ct ad Ms kp nx sz B A tn p9 kd b a1 (by omega) (inB_no d))) hM (upd_s.trans (by decide)) (fun h => absurd h (by decide)) (hR.congr (fun _ _ => rfl) (upd_n (by omega)) (upd_n (by omega)) (fun _ _ _ => rfl))
    · obtain ⟨w, lw, uw, rfl⟩ := inB_ex (by decide) (by decide) d
      have ew : iN (nI w) = w := nI_iN (by omega) rfl
      have ht : tBrk (nI b) (nI w) = 0 := by unfold tBrk; rw [z3, c, d]; rfl
      have hM := m6_breaker l D ct ad6 Z g hs F (nI b) (nI w) n hz
      rw [ht] at hM
      simp only [if00, ↓reduceIte] at hM
      rw [eb, ew] at hM
      exact step_of (mL_breaker rfl (by decide) (by decide) (FMet.g (mX5_breaker l D ct ad Ms kp nx sz B A tn p9 kd b w n hw hbw (by omega) (by omega)))) hM (upd_s.trans (by decide)) (fun _ => congrArg Int32.toInt64 (bre_eq he hO (by omega) (by omega))) (hR.congr (fun _ _ => rfl) (upd_n (by omega)) (upd_n (by omega)) (fun _ _ _ => rfl))
theorem st_socket (l : Launch) (hlt : l.stackTraces = false) (D : va_G) (ct : Nat → ClassId) (cL : ClassId) (ad ad6 : Nat → Nat) (a0 : Int32) (a1 : Int32) : Step l D ct cL ad ad6 yL_socket cL_socket 5 [(0, 10, 13, 13)] [.int a0, .int a1] yX6_socket cX6_socket 3 2 45 := by
  intro ce ce6 v9 hC
  obtain ⟨Ms, kp, nx, sz, B, A, tn, p9, kd, Z, g, hs, F, n, rfl, rfl, hR⟩ := hC
  obtain ⟨he, hr, hnx, hsz, hg3, hg8, htn, hB, hF6, hsl, hri⟩ := id hR
  have hO := hr.1
  have hz := oI_zW hO
  have hw := oI_mW (oI_eq hO he)
  have hbw := oI_bW (oI_eq hO he)
  have hn10 := hz.1
  cases c : inB a0 (nI 0) (nI 11)
  · have ht : tSock a0 a1 = 1 := by unfold tSock; rw [z11, c]; rfl
    have hM := m6_socket l D ct ad6 Z g hs F a0 a1 n hz
    rw [ht] at hM
    simp only [if10, ↓reduceIte] at hM
    exact step_of (mL_socket_EA rfl (by decide) (by decide) (mX5_socket_tA l hlt D ct ad Ms kp nx sz B A tn p9 kd a0 a1 (inB_no c))) hM (upd_s.trans (by decide)) (fun h => absurd h (by decide)) (hR.congr (fun _ _ => rfl) (upd_n (by omega)) (upd_n (by omega)) (fun _ _ _ => rfl))
  · obtain ⟨q, lq, uq, rfl⟩ := inB_ex (by decide) (by decide) c
    have eq : iN (nI q) = q := nI_iN (by omega) rfl
    cases d : inB a1 (nI 0) (nI 1)
    · have ht : tSock (nI q) a1 = 1 := by unfold tSock; rw [z11, c, d]; rfl
      have hM := m6_socket l D ct ad6 Z g hs F (nI q) a1 n hz
      rw [ht] at hM
      simp only [if10, ↓reduceIte] at hM
      exact step_of (mL_socket_EA rfl (by decide) (by decide) (mX5_socket_tA2 l hlt D ct ad Ms kp nx sz B A tn p9 kd q a1 (by omega) (inB_no d))) hM (upd_s.trans (by decide)) (fun h => absurd h (by decide)) (hR.congr (fun _ _ => rfl) (upd_n (by omega)) (upd_n (by omega)) (fun _ _ _ => rfl))
    · obtain ⟨w, lw, uw, rfl⟩ := inB_ex (by decide) (by decide) d
      have ew : iN (nI w) = w := nI_iN (by omega) rfl
      have ht : tSock (nI q) (nI w) = 0 := by unfold tSock; rw [z11, c, d]; rfl
      have hM := m6_socket l D ct ad6 Z g hs F (nI q) (nI w) n hz
      rw [ht] at hM
      simp only [if00, ↓reduceIte] at hM
      rw [eq] at hM
      have e9 : (if w = 0 then cBrk (Ms 0) (nI q) else cAt (Ms 0) (nI q) n 11 0) = (if nI w = 0 then nI (brk Z q) else ox (satN Z (nI q) n)) := by
        rcases (show w = 0 ∨ w = 1 by omega) with rfl | rfl
        · rw [if_pos rfl, if_pos (by decide)]; exact brq_eq he (oI_bW hO) (by omega)
        · rw [if_neg (by decide), if_neg (by decide)]; exact at_eqZ he hO hr.2.2.1 (by omega)
      exact step_of (mL_socket rfl (by decide) (by decide) (FMet.g (mX5_socket l D ct ad Ms kp nx sz B A tn p9 kd q w n hw (by omega) (by omega)))) hM (upd_s.trans (by decide)) (fun _ => congrArg Int32.toInt64 (e9)) (hR.congr (fun _ _ => rfl) (upd_n (by omega)) (upd_n (by omega)) (fun _ _ _ => rfl))
theorem st_count (l : Launch) (hlt : l.stackTraces = false) (D : va_G) (ct : Nat → ClassId) (cL : ClassId) (ad ad6 : Nat → Nat) (a0 : Int32) : Step l D ct cL ad ad6 yL_count cL_count 4 [(0, 9, 12, 13)] [.int a0] yX6_count cX6_count 2 6 133 := by
  intro ce ce6 v9 hC
  obtain ⟨Ms, kp, nx, sz, B, A, tn, p9, kd, Z, g, hs, F, n, rfl, rfl, hR⟩ := hC
  obtain ⟨he, hr, hnx, hsz, hg3, hg8, htn, hB, hF6, hsl, hri⟩ := id hR
  have hO := hr.1
  have hz := oI_zW hO
  have hw := oI_mW (oI_eq hO he)
  have hbw := oI_bW (oI_eq hO he)
  have hn10 := hz.1
  cases c : inB a0 (nI 0) (nI 11)
  · have ht : tCnt a0 = 1 := by unfold tCnt; rw [if_neg (by rw [c]; decide)]
    have hM := m6_count l D ct ad6 Z g hs F a0 n hz
    rw [ht] at hM
    simp only [if10, ↓reduceIte] at hM
    exact step_of (mL_count_EA rfl (by decide) (by decide) (mX5_count_tA l hlt D ct ad Ms kp nx sz B A tn p9 kd a0 (inB_no c))) hM (upd_s.trans (by decide)) (fun h => absurd h (by decide)) (hR.congr (fun _ _ => rfl) (upd_n (by omega)) (upd_n (by omega)) (fun _ _ _ => rfl))
  · obtain ⟨w, lw, uw, rfl⟩ := inB_ex (by decide) (by decide) c
    have ew : iN (nI w) = w := nI_iN (by omega) rfl
    have ht : tCnt (nI w) = 0 := by unfold tCnt; rw [if_pos c]
    have hM := m6_count l D ct ad6 Z g hs F (nI w) n hz
    rw [ht] at hM
    simp only [if00, ↓reduceIte] at hM
    rw [ew, hg3] at hM
    exact step_of (mL_count rfl (by decide) (by decide) (FMet.g (mX5_count l D ct ad Ms kp nx sz B A tn p9 kd w n hw (by omega)))) hM (upd_s.trans (by decide)) (fun _ => congrArg Int32.toInt64 (cnt_eq he hO (by omega))) (hR.congr (fun _ _ => rfl) (upd_n (by omega)) (upd_n (by omega)) (fun _ _ _ => rfl))
theorem st_setting (l : Launch) (hlt : l.stackTraces = false) (D : va_G) (ct : Nat → ClassId) (cL : ClassId) (ad ad6 : Nat → Nat) (a0 : Int32) : Step l D ct cL ad ad6 yL_setting cL_setting 4 [(0, 9, 12, 21)] [.int a0] yX6_setting cX6_setting 2 1 22 := by
  intro ce ce6 v9 hC
  obtain ⟨Ms, kp, nx, sz, B, A, tn, p9, kd, Z, g, hs, F, n, rfl, rfl, hR⟩ := hC
  obtain ⟨he, hr, hnx, hsz, hg3, hg8, htn, hB, hF6, hsl, hri⟩ := id hR
  have hO := hr.1
  have hz := oI_zW hO
  have hw := oI_mW (oI_eq hO he)
  have hbw := oI_bW (oI_eq hO he)
  have hn10 := hz.1
  cases c : inB a0 (nI 0) (nI 2)
  · have ht : tSett a0 = 1 := by unfold tSett; rw [if_neg (by rw [c]; decide)]
    have hM := m6_setting l D ct ad6 Z g hs F a0
    rw [ht] at hM
    simp only [if10, ↓reduceIte] at hM
    exact step_of (mL_setting_EI rfl (by decide) (by decide) (mX5_setting_tI l hlt D ct ad Ms kp nx sz B A tn p9 kd a0 (in0n (by decide) c))) hM (upd_s.trans (by decide)) (fun h => absurd h (by decide)) (hR.congr (fun _ _ => rfl) (upd_n (by omega)) (upd_n (by omega)) (fun _ _ _ => rfl))
  · obtain ⟨w, lw, uw, rfl⟩ := inB_ex (by decide) (by decide) c
    have ew : iN (nI w) = w := nI_iN (by omega) rfl
    have ht : tSett (nI w) = 0 := by unfold tSett; rw [if_pos c]
    have hM := m6_setting l D ct ad6 Z g hs F (nI w)
    rw [ht] at hM
    simp only [if00, ↓reduceIte] at hM
    rw [ew] at hM
    exact step_of (mL_setting rfl (by decide) (by decide) (FMet.g (mX5_setting l D ct ad Ms kp nx sz B A tn p9 kd w (by omega)))) hM (upd_s.trans (by decide)) (fun _ => congrArg Int32.toInt64 (he _ (by omega))) (hR.congr (fun _ _ => rfl) (upd_n (by omega)) (upd_n (by omega)) (fun _ _ _ => rfl))
theorem st_ifPlugged (l : Launch) (hlt : l.stackTraces = false) (D : va_G) (ct : Nat → ClassId) (cL : ClassId) (ad ad6 : Nat → Nat) (a0 : Int32) (a1 : Int32) (a2 : Int32) (a3 : Int32) : Step l D ct cL ad ad6 yL_ifPlugged cL_ifPlugged 7 [(0, 14, 17, 21), (0, 14, 21, 13)] [.int a0, .int a1, .int a2, .int a3] yX6_ifPlugged cX6_ifPlugged 5 8 185 := by
  intro ce ce6 v9 hC
  obtain ⟨Ms, kp, nx, sz, B, A, tn, p9, kd, Z, g, hs, F, n, rfl, rfl, hR⟩ := hC
  obtain ⟨he, hr, hnx, hsz, hg3, hg8, htn, hB, hF6, hsl, hri⟩ := id hR
  have hO := hr.1
  have hz := oI_zW hO
  have hw := oI_mW (oI_eq hO he)
  have hbw := oI_bW (oI_eq hO he)
  have hn10 := hz.1
  cases c : stB Z a0
  · have ht : tIfP Z a0 a1 a2 a3 = 1 := by unfold tIfP; rw [if_neg (by rw [c]; decide)]
    have hM := m6_ifPlugged l D ct ad6 Z g hs F a0 a1 a2 a3 n hz
    rw [ht] at hM
    simp only [if10, ↓reduceIte] at hM
    exact step_of (mL_ifPlugged_EI rfl (by decide) (by decide) (mX5_ifPlugged_tI l hlt D ct ad Ms kp nx sz B A tn p9 kd a0 a1 a2 a3 n hw (stB_no hz c))) hM (upd_s.trans (by decide)) (fun h => absurd h (by decide)) (hR.congr (fun _ _ => rfl) (upd_n (by omega)) (upd_n (by omega)) (fun _ _ _ => rfl))
  · obtain ⟨k0, rfl, hk0⟩ : ∃ k0, a0 = nI k0 ∧ k0 < n := ⟨iN a0, (stB_yes hz c).1, (stB_yes hz c).2⟩
    have ek : iN (nI k0) = k0 := nI_iN (by omega) rfl
    cases d : inB a1 (nI 0) (nI 11)
    · have ht : tIfP Z (nI k0) a1 a2 a3 = 2 := by unfold tIfP; rw [if_pos c, z11, d]; rfl
      have hM := m6_ifPlugged l D ct ad6 Z g hs F (nI k0) a1 a2 a3 n hz
      rw [ht] at hM
      simp only [if20, ↓reduceIte] at hM
      exact step_of (mL_ifPlugged_EA rfl (by decide) (by decide) (mX5_ifPlugged_tA1 l hlt D ct ad Ms kp nx sz B A tn p9 kd k0 a1 a2 a3 n hw hk0 (inB_no d))) hM (upd_s.trans (by decide)) (fun h => absurd h (by decide)) (hR.congr (fun _ _ => rfl) (upd_n (by omega)) (upd_n (by omega)) (fun _ _ _ => rfl))
    · obtain ⟨q, lq, uq, rfl⟩ := inB_ex (by decide) (by decide) d
      have eq : iN (nI q) = q := nI_iN (by omega) rfl
      cases f : inB a2 (nI 1) (nI 48)
      · have ht : tIfP Z (nI k0) (nI q) a2 a3 = 2 := by unfold tIfP; rw [if_pos c, z11, d, f]; rfl
        have hM := m6_ifPlugged l D ct ad6 Z g hs F (nI k0) (nI q) a2 a3 n hz
        rw [ht] at hM
        simp only [if20, ↓reduceIte] at hM
        exact step_of (mL_ifPlugged_EA rfl (by decide) (by decide) (mX5_ifPlugged_tA2 l hlt D ct ad Ms kp nx sz B A tn p9 kd k0 q a2 a3 n hw hk0 (by omega) (inB_no f))) hM (upd_s.trans (by decide)) (fun h => absurd h (by decide)) (hR.congr (fun _ _ => rfl) (upd_n (by omega)) (upd_n (by omega)) (fun _ _ _ => rfl))
      · obtain ⟨t, lt, ut, rfl⟩ := inB_ex (by decide) (by decide) f
        have et : iN (nI t) = t := nI_iN (by omega) rfl
        cases f2 : inB a3 (nI 0) (nI 2)
        · have ht : tIfP Z (nI k0) (nI q) (nI t) a3 = 2 := by unfold tIfP; rw [if_pos c, z11, d, f, f2]; rfl
          have hM := m6_ifPlugged l D ct ad6 Z g hs F (nI k0) (nI q) (nI t) a3 n hz
          rw [ht] at hM
          simp only [if20, ↓reduceIte] at hM
          exact step_of (mL_ifPlugged_EA rfl (by decide) (by decide) (mX5_ifPlugged_tA3 l hlt D ct ad Ms kp nx sz B A tn p9 kd k0 q t a3 n hw hk0 (by omega) lt ut (inB_no f2))) hM (upd_s.trans (by decide)) (fun h => absurd h (by decide)) (hR.congr (fun _ _ => rfl) (upd_n (by omega)) (upd_n (by omega)) (fun _ _ _ => rfl))
        · obtain ⟨w, lw, uw, rfl⟩ := inB_ex (by decide) (by decide) f2
          have ew : iN (nI w) = w := nI_iN (by omega) rfl
          have ht : tIfP Z (nI k0) (nI q) (nI t) (nI w) = 0 := by unfold tIfP; rw [if_pos c, z11, d, f, f2]; rfl
          have hM := m6_ifPlugged l D ct ad6 Z g hs F (nI k0) (nI q) (nI t) (nI w) n hz
          rw [ht] at hM
          simp only [if00, ↓reduceIte] at hM
          rw [ek, eq, et, ew] at hM
          exact step_of (mL_ifPlugged rfl (by decide) (by decide) (FMet.g (mX5_ifPlugged l D ct ad Ms kp nx sz B A tn p9 kd k0 q t w n hw hbw hk0 (by omega) lt ut (by omega)))) hM (upd_s.trans (by decide)) (fun _ => congrArg Int32.toInt64 (if_eq he hO hr.2.1 hr.2.2.1 hk0 (by omega))) (hR.congr (fun j h1 => by split; rfl; exact va_up_ne _ _ h1) (upd_n (by omega)) (upd_n (by omega)) (fun j h5 _ => sp5_ne h5))
theorem st_tripsIn (l : Launch) (hlt : l.stackTraces = false) (D : va_G) (ct : Nat → ClassId) (cL : ClassId) (ad ad6 : Nat → Nat) (a0 : Int32) : Step l D ct cL ad ad6 yL_tripsIn cL_tripsIn 4 [(0, 9, 12, 13)] [.int a0] yX6_tripsIn cX6_tripsIn 2 7 157 := by
  intro ce ce6 v9 hC
  obtain ⟨Ms, kp, nx, sz, B, A, tn, p9, kd, Z, g, hs, F, n, rfl, rfl, hR⟩ := hC
  obtain ⟨he, hr, hnx, hsz, hg3, hg8, htn, hB, hF6, hsl, hri⟩ := id hR
  have hO := hr.1
  have hz := oI_zW hO
  have hw := oI_mW (oI_eq hO he)
  have hbw := oI_bW (oI_eq hO he)
  have hn10 := hz.1
  cases c : inB a0 (nI 0) (nI 3)
  · have ht : tTrip a0 = 1 := by unfold tTrip; rw [z3, if_neg (by rw [c]; decide)]
    have hM := m6_tripsIn l D ct ad6 Z g hs F a0 n hz
    rw [ht] at hM
    simp only [if10, ↓reduceIte] at hM
    exact step_of (mL_tripsIn_EA rfl (by decide) (by decide) (mX5_tripsIn_tA l hlt D ct ad Ms kp nx sz B A tn p9 kd a0 (inB_no c))) hM (upd_s.trans (by decide)) (fun h => absurd h (by decide)) (hR.congr (fun _ _ => rfl) (upd_n (by omega)) (upd_n (by omega)) (fun _ _ _ => rfl))
  · obtain ⟨b, lb, ub, rfl⟩ := inB_ex (by decide) (by decide) c
    have eb : iN (nI b) = b := nI_iN (by omega) rfl
    have ht : tTrip (nI b) = 0 := by unfold tTrip; rw [z3, if_pos c]
    have hM := m6_tripsIn l D ct ad6 Z g hs F (nI b) n hz
    rw [ht] at hM
    simp only [if00, ↓reduceIte] at hM
    rw [eb] at hM
    exact step_of (mL_tripsIn rfl (by decide) (by decide) (FMet.g (mX5_tripsIn l D ct ad Ms kp nx sz B A tn p9 kd b n hw hbw (by omega)))) hM (upd_s.trans (by decide)) (fun _ => congrArg Int32.toInt64 (ti_eq (cp_eq he) hO hr.2.1 (by omega) 98 0)) (hR.congr (fun j h1 => va_up_ne _ _ h1) (upd_n (by omega)) (upd_n (by omega)) (fun j h5 _ => sp5_ne h5))
theorem st_leastBound (l : Launch) (hlt : l.stackTraces = false) (D : va_G) (ct : Nat → ClassId) (cL : ClassId) (ad ad6 : Nat → Nat) (a0 : Int32) : Step l D ct cL ad ad6 yL_leastBound cL_leastBound 4 [(0, 9, 12, 13)] [.int a0] yX6_leastBound cX6_leastBound 2 7 159 := by
  intro ce ce6 v9 hC
  obtain ⟨Ms, kp, nx, sz, B, A, tn, p9, kd, Z, g, hs, F, n, rfl, rfl, hR⟩ := hC
  obtain ⟨he, hr, hnx, hsz, hg3, hg8, htn, hB, hF6, hsl, hri⟩ := id hR
  have hO := hr.1
  have hz := oI_zW hO
  have hw := oI_mW (oI_eq hO he)
  have hbw := oI_bW (oI_eq hO he)
  have hn10 := hz.1
  cases c : inB a0 (nI 0) (nI 3)
  · have ht : tTrip a0 = 1 := by unfold tTrip; rw [z3, if_neg (by rw [c]; decide)]
    have hM := m6_leastBound l D ct ad6 Z g hs F a0 n hz
    rw [ht] at hM
    simp only [if10, ↓reduceIte] at hM
    exact step_of (mL_leastBound_EA rfl (by decide) (by decide) (mX5_leastBound_tA l hlt D ct ad Ms kp nx sz B A tn p9 kd a0 (inB_no c))) hM (upd_s.trans (by decide)) (fun h => absurd h (by decide)) (hR.congr (fun _ _ => rfl) (upd_n (by omega)) (upd_n (by omega)) (fun _ _ _ => rfl))
  · obtain ⟨b, lb, ub, rfl⟩ := inB_ex (by decide) (by decide) c
    have eb : iN (nI b) = b := nI_iN (by omega) rfl
    have ht : tTrip (nI b) = 0 := by unfold tTrip; rw [z3, if_pos c]
    have hM := m6_leastBound l D ct ad6 Z g hs F (nI b) n hz
    rw [ht] at hM
    simp only [if00, ↓reduceIte] at hM
    rw [eb] at hM
    exact step_of (mL_leastBound rfl (by decide) (by decide) (FMet.g (mX5_leastBound l D ct ad Ms kp nx sz B A tn p9 kd b n hw hbw (by omega)))) hM (upd_s.trans (by decide)) (fun _ => congrArg Int32.toInt64 (lb_eq he hO hr.2.1 (by omega))) (hR.congr (fun j h1 => va_up_ne _ _ h1) (upd_n (by omega)) (upd_n (by omega)) (fun j h5 _ => sp5_ne h5))
theorem st_bestSocket (l : Launch) (hlt : l.stackTraces = false) (D : va_G) (ct : Nat → ClassId) (cL : ClassId) (ad ad6 : Nat → Nat) (a0 : Int32) : Step l D ct cL ad ad6 yL_bestSocket cL_bestSocket 4 [(0, 9, 12, 21)] [.int a0] yX6_bestSocket cX6_bestSocket 2 9 213 := by
  intro ce ce6 v9 hC
  obtain ⟨Ms, kp, nx, sz, B, A, tn, p9, kd, Z, g, hs, F, n, rfl, rfl, hR⟩ := hC
  obtain ⟨he, hr, hnx, hsz, hg3, hg8, htn, hB, hF6, hsl, hri⟩ := id hR
  have hO := hr.1
  have hz := oI_zW hO
  have hw := oI_mW (oI_eq hO he)
  have hbw := oI_bW (oI_eq hO he)
  have hn10 := hz.1
  cases c : stB Z a0
  · have ht : tShed Z a0 = 1 := by unfold tShed; rw [if_neg (by rw [c]; decide)]
    have hM := m6_bestSocket l D ct ad6 Z g hs F a0 n hz
    rw [ht] at hM
    simp only [if10, ↓reduceIte] at hM
    exact step_of (mL_bestSocket_EI rfl (by decide) (by decide) (mX5_bestSocket_tI l hlt D ct ad Ms kp nx sz B A tn p9 kd a0 n hw (stB_no hz c))) hM (upd_s.trans (by decide)) (fun h => absurd h (by decide)) (hR.congr (fun _ _ => rfl) (upd_n (by omega)) (upd_n (by omega)) (fun _ _ _ => rfl))
  · obtain ⟨k0, rfl, hk0⟩ : ∃ k0, a0 = nI k0 ∧ k0 < n := ⟨iN a0, (stB_yes hz c).1, (stB_yes hz c).2⟩
    have ek : iN (nI k0) = k0 := nI_iN (by omega) rfl
    obtain ⟨h9, hh9, hb9⟩ := hr.2.2.2
    have ht : tShed Z (nI k0) = 0 := by unfold tShed; rw [if_pos c]
    have hM := m6_bestSocket l D ct ad6 Z g hs F (nI k0) n hz
    rw [ht] at hM
    simp only [if00, ↓reduceIte] at hM
    rw [ek] at hM
    exact step_of (mL_bestSocket rfl (by decide) (by decide) (FMet.g (mX5_bestSocket l D ct ad Ms kp nx sz B A tn p9 kd k0 n hw hbw hk0))) hM (upd_s.trans (by decide)) (fun _ => congrArg Int32.toInt64 (bs_eq he hO hr.2.1 hr.2.2.1 hb9 hh9 hk0)) (hR.congr (fun j h1 => va_up_ne _ _ h1) (upd_n (by omega)) (upd_n (by omega)) (fun j h5 _ => sp5_ne h5))
theorem xI_n (X : Nat → Nat → Int32) (n k j : Nat) (h : j ≠ 1) : xI X n k j = X j := by unfold xI; split; rfl; exact va_up_ne _ _ h
theorem xP_n (X : Nat → Nat → Int32) (n k j : Nat) (h : j ≠ 1) : ∀ i, xP X n k i j = X j
  | 0 => rfl
  | i + 1 => (xI_n _ _ _ j h).trans (xP_n X n k j h i)
theorem xS_n (X : Nat → Nat → Int32) (n j : Nat) (h : j ≠ 1) : ∀ i, xS X n i j = X j
  | 0 => rfl
  | i + 1 => (va_up_ne _ _ h : xB (xP (xS X n i) n i 3) n i j = _).trans ((xP_n _ _ _ j h 3).trans (xS_n X n j h i))
theorem xQ_n (X : Nat → Nat → Int32) (n j : Nat) (h : j ≠ 1) : ∀ i, xQ X n i j = X j
  | 0 => rfl
  | i + 1 => (va_up_ne _ _ h : xT (xQ X n i) n i j = xQ X n i j).trans (xQ_n X n j h i)
theorem st_clearBuffer (l : Launch) (D : va_G) (ct : Nat → ClassId) (ad ad6 : Nat → Nat) : ∀ (ce ce6 : Nat → va_E), CS ct ad ad6 ce ce6 → ∃ (r : Int32) (ce' ce6' : Nat → va_E), FMet l yX5_clearBuffer cX5_clearBuffer 2 (some .int) 0 0 D ct 198 ad [.ref (ad 0)] ce (some (.int r)) ce' ∧ FMet l yX6_clearBuffer cX6_clearBuffer 2 (some .int) 0 0 D ct 8 ad6 [.ref (ad6 0)] ce6 (some (.int r)) ce6' ∧ CS ct ad ad6 ce' ce6' := by
  intro ce ce6 hC
  obtain ⟨Ms, kp, nx, sz, B, A, tn, p9, kd, Z, g, hs, F, n, rfl, rfl, hR⟩ := hC
  obtain ⟨he, hr, hnx, hsz, hg3, hg8, htn, hB, hF6, hsl, hri⟩ := id hR
  have hO := hr.1
  have hz := oI_zW hO
  have hw := oI_mW (oI_eq hO he)
  have hbw := oI_bW (oI_eq hO he)
  have hn10 := hz.1
  exact ⟨nI tn, _, _, mX5_clearBuffer l D ct ad Ms kp nx sz B A tn p9 kd, m6_clearBuffer l D ct ad6 Z g hs F tn hg8 htn, Ms, kp, nx, sz, B, A, 0, p9, kd, Z, _, hs, F, n, rfl, rfl, hR.clear ((upd_n (by omega)).trans (upd_n (by omega))) upd_s⟩
theorem st_firstError (l : Launch) (D : va_G) (ct : Nat → ClassId) (ad ad6 : Nat → Nat) : ∀ (ce ce6 : Nat → va_E), CS ct ad ad6 ce ce6 → ∃ (r : Int32) (ce' ce6' : Nat → va_E), FMet l yX5_firstError cX5_firstError 1 (some .int) 4 87 D ct 198 ad [.ref (ad 0)] ce (some (.int r)) ce' ∧ FMet l yX6_firstError cX6_firstError 2 (some .int) 5 110 D ct 8 ad6 [.ref (ad6 0)] ce6 (some (.int r)) ce6' ∧ CS ct ad ad6 ce' ce6' := by
  intro ce ce6 hC
  obtain ⟨Ms, kp, nx, sz, B, A, tn, p9, kd, Z, g, hs, F, n, rfl, rfl, hR⟩ := hC
  obtain ⟨he, hr, hnx, hsz, hg3, hg8, htn, hB, hF6, hsl, hri⟩ := id hR
  have hO := hr.1
  have hz := oI_zW hO
  have hw := oI_mW (oI_eq hO he)
  have hbw := oI_bW (oI_eq hO he)
  have hn10 := hz.1
  have fe := fe_eq (B2 := B) (A := A) (O := F 7) (kd := kd) hB htn
  obtain ⟨w0, hw0⟩ : ∃ w0, pW B tn 60 0 A kd = w0 := ⟨_, rfl⟩
  rw [hw0] at fe
  have hM := m6_firstError l D ct ad6 Z g hs F tn hg8 htn
  rw [hF6, ← fe.1] at hM
  exact ⟨nI w0.2.1, _, _, mX5_firstError l D ct ad Ms kp nx sz B A tn p9 kd w0 hw0 htn, hM, Ms, kp, nx, sz, B, w0.2.2.1, tn, w0.2.1, w0.2.2.2, Z, _, hs, _, n, rfl, rfl, hR.congr (fun _ _ => rfl) ((upd_n (by omega)).trans ((upd_n (by omega)).trans ((upd_n (by omega)).trans (upd_n (by omega))))) ((upd_n (by omega)).trans ((upd_n (by omega)).trans ((upd_n (by omega)).trans (upd_n (by omega))))) (fun j _ h7 => va_up_ne _ _ h7)⟩
theorem st_servedShare (l : Launch) (D : va_G) (ct : Nat → ClassId) (ad ad6 : Nat → Nat) : ∀ (ce ce6 : Nat → va_E), CS ct ad ad6 ce ce6 → ∃ (r : UInt64) (ce' ce6' : Nat → va_E), FMet l yX5_servedShare cX5_servedShare 2 (some .double) 1 22 D ct 198 ad [.ref (ad 0)] ce (some (.double r)) ce' ∧ FMet l yX6_servedShare cX6_servedShare 1 (some .double) 6 133 D ct 8 ad6 [.ref (ad6 0)] ce6 (some (.double r)) ce6' ∧ CS ct ad ad6 ce' ce6' ∧ shOk r := by
  intro ce ce6 hC
  obtain ⟨Ms, kp, nx, sz, B, A, tn, p9, kd, Z, g, hs, F, n, rfl, rfl, hR⟩ := hC
  obtain ⟨he, hr, hnx, hsz, hg3, hg8, htn, hB, hF6, hsl, hri⟩ := id hR
  have hO := hr.1
  have hz := oI_zW hO
  have hw := oI_mW (oI_eq hO he)
  have hbw := oI_bW (oI_eq hO he)
  have hn10 := hz.1
  obtain ⟨h9, hh9, hb9⟩ := hr.2.2.2
  obtain ⟨-, ⟨sv, hs1, hs2⟩, -, -⟩ := id hb9
  obtain ⟨sd, hd1, hd2⟩ := dark_n hb9 n (Nat.le_refl n)
  have hss : sv + sd < 2147483648 := by
    have := Nat.mul_le_mul hn10 hh9
    omega
  have hv : Ms 0 6 = nI sv := (he _ (by omega)).trans hs2
  have hd : cSs (Ms 0) 7 n = nI sd := (ss_eq he (by omega) n (Nat.le_refl n)).trans hd2
  exact ⟨shD sv sd, _, _, mX5_servedShare l D ct ad Ms kp nx sz B A tn p9 kd n sv sd hw hv hd hss, m6_servedShare l D ct ad6 Z g hs F n sv sd hz hs2 hd2 hss, ⟨Ms, kp, nx, sz, B, A, tn, p9, kd, Z, _, hs, F, n, rfl, rfl, hR.congr (fun _ _ => rfl) (upd_n (by omega)) (upd_n (by omega)) (fun _ _ _ => rfl)⟩, shD_ok hss⟩
theorem st_digest (l : Launch) (D : va_G) (ct : Nat → ClassId) (ad ad6 : Nat → Nat) : ∀ (ce ce6 : Nat → va_E), CS ct ad ad6 ce ce6 → ∃ (r : Int64) (ce' ce6' : Nat → va_E), FMet l yX5_digest cX5_digest 5 (some .long) 7 160 D ct 198 ad [.ref (ad 0)] ce (some (.long r)) ce' ∧ FMet l yX6_digest cX6_digest 2 (some .long) 10 235 D ct 8 ad6 [.ref (ad6 0)] ce6 (some (.long r)) ce6' ∧ CS ct ad ad6 ce' ce6' := by
  intro ce ce6 hC
  obtain ⟨Ms, kp, nx, sz, B, A, tn, p9, kd, Z, g, hs, F, n, rfl, rfl, hR⟩ := hC
  obtain ⟨he, hr, hnx, hsz, hg3, hg8, htn, hB, hF6, hsl, hri⟩ := id hR
  have hO := hr.1
  have hz := oI_zW hO
  have hw := oI_mW (oI_eq hO he)
  have hbw := oI_bW (oI_eq hO he)
  have hn10 := hz.1
  obtain ⟨h9, hh9, hb9⟩ := hr.2.2.2
  obtain ⟨-, ⟨sv, hs1, hs2⟩, -, -⟩ := id hb9
  obtain ⟨sd, hd1, hd2⟩ := dark_n hb9 n (Nat.le_refl n)
  have hss : sv + sd < 2147483648 := by
    have := Nat.mul_le_mul hn10 hh9
    omega
  have hv : Ms 0 6 = nI sv := (he _ (by omega)).trans hs2
  have hd : cSs (Ms 0) 7 n = nI sd := (ss_eq he (by omega) n (Nat.le_refl n)).trans hd2
  have hM := m6_digest l D ct ad6 Z g hs F n sv sd tn hz hs2 hd2 hss hg8 htn
  have hC := mX5_digest l D ct ad Ms kp nx sz B A tn p9 kd n sv sd hw hbw htn hv hd hss
  rw [dig_eq (K := F 4) (B2 := F 6) (d := shD sv sd) he hO hr.2.1 hr.2.2.1 hb9 hh9 (fun i hi => (hsl i hi).1) (fun i _ => by rw [hF6]), ← hg3] at hC
  rw [hg3] at hC
  rw [hg3] at hM
  exact ⟨_, _, _, hC, hM, _, kp, nx, sz, B, A, tn, p9, kd, Z, _, _, _, n, rfl, rfl, hR.congr (fun j h1 => (va_up_ne _ _ h1).trans ((xQ_n _ _ j h1 4).trans (xS_n _ _ j h1 n))) (upd_n (by omega)) (upd_n (by omega)) (fun j h5 _ => sp5_ne h5)⟩
