/-! THE STATE RELATION: the class's object and the reference's -/
def slR (Ms : Nat → Nat → Int32) (kp : Nat → Int32) (F : Nat → Nat → Int32) : Prop := ∀ s, s < 2 → kp s = F 4 s ∧ (¬ kp s = 0 → ∃ n, eqZ (Ms (2 + s)) (bckZ (F 3) (s * 119)) n ∧ rI (bckZ (F 3) (s * 119)) n)
def riR (Ms : Nat → Nat → Int32) (nx sz : Nat) (F : Nat → Nat → Int32) : Prop := ∀ j, j < sz → ∃ n, eqZ (Ms (4 + (nx + 6 - sz + j) % 6)) (bckZ (F 2) (j * 119)) n ∧ rI (bckZ (F 2) (j * 119)) n
def Rel (Ms : Nat → Nat → Int32) (kp : Nat → Int32) (nx sz : Nat) (B : Nat → Int32) (tn : Nat) (Z g : Nat → Int32) (F : Nat → Nat → Int32) (n : Nat) : Prop := eqZ (Ms 0) Z n ∧ rI Z n ∧ nx < 6 ∧ sz ≤ 6 ∧ g 3 = nI sz ∧ g 8 = nI tn ∧ tn ≤ 60 ∧ gB B tn ∧ F 6 = B ∧ slR Ms kp F ∧ riR Ms nx sz F
section REL
variable {Ms Ms' : Nat → Nat → Int32} {kp B Z Z' g g' : Nat → Int32} {nx sz tn n n' : Nat} {F F' : Nat → Nat → Int32}
theorem Rel.congr (h : Rel Ms kp nx sz B tn Z g F n) (hM : ∀ j, j ≠ 1 → Ms' j = Ms j) (h3 : g' 3 = g 3) (h8 : g' 8 = g 8) (hF : ∀ j, j ≠ 5 → j ≠ 7 → F' j = F j) : Rel Ms' kp nx sz B tn Z g' F' n := by
  obtain ⟨a, b, c, d, e, f, i, j, k, hs, hr⟩ := h
  refine ⟨by rw [hM 0 (by omega)]; exact a, b, c, d, h3.trans e, h8.trans f, i, j, (hF 6 (by omega) (by omega)).trans k, fun s hs2 => ?_, fun q hq => ?_⟩
  · rw [hM (2 + s) (by omega), hF 3 (by omega) (by omega), hF 4 (by omega) (by omega)]; exact hs s hs2
  · rw [hM (4 + (nx + 6 - sz + q) % 6) (by omega), hF 2 (by omega) (by omega)]; exact hr q hq
/-- rows of a longer text -/
theorem bck_eq {f f' : Nat → Int32} {o o' m : Nat} {M M' : Nat → Int32} (he : eqZ M (bckZ f o) m) (hr : rI (bckZ f o) m) (hM : M' = M) (hf : ∀ y, y < 119 → f' (o' + y) = f (o + y)) : eqZ M' (bckZ f' o') m ∧ rI (bckZ f' o') m := by
  subst hM
  have h10 := hr.1.1
  have h1 : eqZ (bckZ f' o') (bckZ f o) m := fun y hy => hf y (by omega)
  exact ⟨fun y hy => (he y hy).trans (h1 y hy).symm, eqZ_rI h1 hr⟩
theorem cpo_in {s d : Nat → Int32} {o y : Nat} (h : y < 119) : cpo s d o 119 (o + y) = s y := by
  unfold cpo
  rw [if_pos ⟨by omega, by omega⟩, show o + y - o = y by omega]
theorem cpo_out {s d : Nat → Int32} {o j : Nat} (h : j < o ∨ o + 119 ≤ j) : cpo s d o 119 j = d j := by
  unfold cpo
  rw [if_neg (by omega)]
theorem new_eq {f' : Nat → Int32} {o m : Nat} {T M Z : Nat → Int32} (he : eqZ M Z m) (hr : rI Z m) (hf : ∀ y, y < 119 → f' (o + y) = Z y) : eqZ (cCp T M m) (bckZ f' o) m ∧ rI (bckZ f' o) m := by
  have h10 := hr.1.1
  have h1 : eqZ (bckZ f' o) Z m := fun y hy => hf y (by omega)
  exact ⟨fun y hy => (cp_eq he y hy).trans (h1 y hy).symm, eqZ_rI h1 hr⟩
theorem riR_save (h : riR Ms nx sz F) (he : eqZ (Ms 0) Z n) (hr : rI Z n) (hnx : nx < 6) (hsz : sz ≤ 6) (hN : Ms' (4 + nx) = cCp (Ms (4 + nx)) (Ms 0) n) (hM : ∀ j, 4 ≤ j → j ≠ 4 + nx → Ms' j = Ms j) (hF : F' 2 = svf (F 2) Z sz) : riR Ms' ((nx + 1) % 6) (svn sz) F' := by
  intro j hj
  rw [hF]
  by_cases c6 : sz = 6
  · subst c6
    have hj6 : j < 6 := hj
    show ∃ n, eqZ (Ms' (4 + ((nx + 1) % 6 + 6 - 6 + j) % 6)) (bckZ (cpo Z (shf (F 2) 595) 595 119) (j * 119)) n ∧ rI (bckZ (cpo Z (shf (F 2) 595) 595 119) (j * 119)) n
    by_cases c5 : j = 5
    · subst c5
      rw [show (4 + ((nx + 1) % 6 + 6 - 6 + 5) % 6) = 4 + nx by omega, hN]
      exact ⟨n, new_eq he hr (fun y hy => cpo_in hy)⟩
    · obtain ⟨m, h1, h2⟩ := h (j + 1) (by omega)
      refine ⟨m, bck_eq h1 h2 ?_ (fun y hy => ?_)⟩
      · rw [hM _ (by omega) (by omega)]
        congr 1
        omega
      · rw [cpo_out (Or.inl (by omega))]
        unfold shf
        rw [if_pos (by omega)]
        congr 1
        omega
  · have e1 : svn sz = sz + 1 := if_neg c6
    have e2 : svf (F 2) Z sz = cpo Z (F 2) (sz * 119) 119 := if_neg c6
    rw [e1] at hj ⊢
    rw [e2]
    by_cases cj : j = sz
    · subst cj
      rw [show (4 + ((nx + 1) % 6 + 6 - (j + 1) + j) % 6) = 4 + nx by omega, hN]
      exact ⟨n, new_eq he hr (fun y hy => cpo_in hy)⟩
    · obtain ⟨m, h1, h2⟩ := h j (by omega)
      refine ⟨m, bck_eq h1 h2 ?_ (fun y hy => ?_)⟩
      · rw [hM _ (by omega) (by omega)]
        congr 1
        omega
      · rw [cpo_out (Or.inl (by omega))]
theorem Rel.save {tn' : Nat} (h : Rel Ms kp nx sz B tn Z g F n) (he : eqZ (Ms' 0) Z' n') (hr : rI Z' n') (h3 : g' 3 = nI (svn sz)) (h8 : g' 8 = nI tn') (ht : tn' ≤ tn) (hN : Ms' (4 + nx) = cCp (Ms (4 + nx)) (Ms 0) n) (hM : ∀ j, j ≠ 0 → j ≠ 1 → j ≠ 4 + nx → Ms' j = Ms j) (hF : F' 2 = svf (F 2) Z sz) (hF2 : ∀ j, j ≠ 2 → j ≠ 5 → j ≠ 7 → F' j = F j) : Rel Ms' kp ((nx + 1) % 6) (svn sz) B tn' Z' g' F' n' := by
  obtain ⟨a, b, c, d, e, f, i, j, k, hs, hr9⟩ := h
  refine ⟨he, hr, by omega, by unfold svn; split <;> omega, h3, h8, by omega, fun q hq => j q (by omega), (hF2 6 (by omega) (by omega) (by omega)).trans k, fun s hs2 => ?_, riR_save hr9 a b c d hN (fun q h1 h2 => hM q (by omega) (by omega) h2) hF⟩
  rw [hM (2 + s) (by omega) (by omega) (by omega), hF2 3 (by omega) (by omega) (by omega), hF2 4 (by omega) (by omega) (by omega)]; exact hs s hs2
theorem Rel.undo (h : Rel Ms kp nx sz B tn Z g F n) (h1 : 1 ≤ sz) : ∃ m, eqZ (Ms (4 + (nx + 6 - 1) % 6)) (bckZ (F 2) ((sz - 1) * 119)) m ∧ rI (bckZ (F 2) ((sz - 1) * 119)) m ∧ (∀ {Ms' : Nat → Nat → Int32} {g' : Nat → Int32}, eqZ (Ms' 0) (bckZ (F 2) ((sz - 1) * 119)) m → (∀ j, j ≠ 0 → j ≠ 1 → Ms' j = Ms j) → g' 3 = nI (sz - 1) → g' 8 = g 8 → Rel Ms' kp ((nx + 6 - 1) % 6) (sz - 1) B tn (bckZ (F 2) ((sz - 1) * 119)) g' F m) := by
  obtain ⟨a, b, c, d, e, f, i, j, k, hs, hr⟩ := h
  obtain ⟨m, m1, m2⟩ := hr (sz - 1) (by omega)
  rw [show (nx + 6 - sz + (sz - 1)) % 6 = (nx + 6 - 1) % 6 by omega] at m1
  refine ⟨m, m1, m2, fun {Ms'} {g'} h0 hM h3 h8 => ⟨h0, m2, by omega, by omega, h3, h8.trans f, i, j, k, fun s hs2 => ?_, fun q hq => ?_⟩⟩
  · rw [hM (2 + s) (by omega) (by omega)]; exact hs s hs2
  · rw [hM _ (by omega) (by omega), show ((nx + 6 - 1) % 6 + 6 - (sz - 1) + q) % 6 = (nx + 6 - sz + q) % 6 by omega]
    exact hr q (by omega)
theorem Rel.keep {s : Nat} (h : Rel Ms kp nx sz B tn Z g F n) (hs : s < 2) (hN : Ms' (2 + s) = cCp (Ms (2 + s)) (Ms 0) n) (hM : ∀ j, j ≠ 1 → j ≠ 2 + s → Ms' j = Ms j) (h3 : g' 3 = g 3) (h8 : g' 8 = g 8) (h4 : F' 4 = upd (F 4) s (nI 1)) (hF3 : F' 3 = cpo Z (F 3) (s * 119) 119) (hF : ∀ j, j ≠ 3 → j ≠ 4 → j ≠ 5 → j ≠ 7 → F' j = F j) : Rel Ms' (upd kp s (nI 1)) nx sz B tn Z g' F' n := by
  obtain ⟨a, b, c, d, e, f, i, j, k, hs9, hr⟩ := h
  refine ⟨by rw [hM 0 (by omega) (by omega)]; exact a, b, c, d, h3.trans e, h8.trans f, i, j, (hF 6 (by omega) (by omega) (by omega) (by omega)).trans k, fun t ht => ?_, fun q hq => ?_⟩
  · by_cases q : t = s
    · subst q
      rw [h4, upd_s, upd_s, hN, hF3]
      exact ⟨rfl, fun _ => ⟨n, new_eq a b (fun y hy => cpo_in hy)⟩⟩
    · rw [h4, upd_n q, upd_n q, hM (2 + t) (by omega) (by omega), hF3]
      obtain ⟨h1, h2⟩ := hs9 t ht
      refine ⟨h1, fun h9 => ?_⟩
      obtain ⟨m, m1, m2⟩ := h2 h9
      refine ⟨m, bck_eq m1 m2 rfl (fun y hy => ?_)⟩
      rw [cpo_out (by omega)]
  · rw [hM (4 + (nx + 6 - sz + q) % 6) (by omega) (by omega), hF 2 (by omega) (by omega) (by omega) (by omega)]; exact hr q hq
theorem Rel.app {v : Int32} (h : Rel Ms kp nx sz B tn Z g F n) (ht : tn < 60) (hv : ∃ c, 33 ≤ c ∧ c ≤ 126 ∧ v = nI c) (h3 : g' 3 = g 3) (h8 : g' 8 = nI (tn + 1)) (h6 : F' 6 = upd (F 6) tn v) (hF : ∀ j, j ≠ 6 → F' j = F j) : Rel Ms kp nx sz (upd B tn v) (tn + 1) Z g' F' n := by
  obtain ⟨a, b, c, d, e, f, i, j, k, hs9, hr⟩ := h
  refine ⟨a, b, c, d, h3.trans e, h8, ht, fun q hq => ?_, by rw [h6, k], fun t h9 => ?_, fun q hq => ?_⟩
  · by_cases z : q = tn
    · subst z; rw [upd_s]; exact hv
    · rw [upd_n z]; exact j q (by omega)
  · rw [hF 3 (by omega), hF 4 (by omega)]; exact hs9 t h9
  · rw [hF 2 (by omega)]; exact hr q hq
theorem Rel.clear (h : Rel Ms kp nx sz B tn Z g F n) (h3 : g' 3 = g 3) (h8 : g' 8 = nI 0) : Rel Ms kp nx sz B 0 Z g' F n := by
  obtain ⟨a, b, c, d, e, f, i, j, k, hs9, hr⟩ := h
  exact ⟨a, b, c, d, h3.trans e, h8, by omega, fun q hq => absurd hq (by omega), k, hs9, hr⟩
theorem inB_no {v : Int32} {lo hi : Int32} (h : inB v lo hi = false) : v < lo ∨ hi < v := by
  unfold inB at h
  rw [Bool.and_eq_false_iff] at h
  rcases h with h | h
  · exact Or.inl (Int32.not_le.mp (of_decide_eq_false h))
  · exact Or.inr (Int32.not_le.mp (of_decide_eq_false h))
theorem inB_yes {v : Int32} {lo hi : Int32} (h : inB v lo hi = true) : ¬ v < lo ∧ ¬ hi < v := by
  unfold inB at h
  rw [Bool.and_eq_true] at h
  exact ⟨Int32.not_lt.mpr (of_decide_eq_true h.1), Int32.not_lt.mpr (of_decide_eq_true h.2)⟩
theorem stB_no {v : Int32} (hz : zW Z n) (h : stB Z v = false) : v < 0 ∨ nI n ≤ v := by
  unfold stB at h
  rw [hz.2.1, Bool.and_eq_false_iff] at h
  rcases h with h | h
  · exact Or.inl (Int32.not_le.mp (of_decide_eq_false h))
  · exact Or.inr (Int32.not_lt.mp (of_decide_eq_false h))
theorem stB_yes {v : Int32} (hz : zW Z n) (h : stB Z v = true) : v = nI (iN v) ∧ iN v < n := by
  have h1 : 0 < n := by
    rcases Nat.eq_zero_or_pos n with q | q
    · unfold stB at h
      rw [hz.2.1, q, Bool.and_eq_true] at h
      exact absurd (of_decide_eq_true h.2) (Int32.not_lt.mpr (of_decide_eq_true h.1))
    · exact q
  have h2 : inB v (nI 0) (nI (n - 1)) = true := by
    unfold stB at h
    rw [hz.2.1, Bool.and_eq_true] at h
    unfold inB
    rw [Bool.and_eq_true]
    refine ⟨h.1, decide_eq_true ?_⟩
    have a := of_decide_eq_true h.2
    have b := of_decide_eq_true h.1
    rw [Int32.le_iff_toInt_le]
    rw [Int32.lt_iff_toInt_lt] at a
    rw [nI_toInt (by have := hz.1; omega)] at a ⊢
    omega
  have h3 := inB_n (by omega) (by have := hz.1; omega) h2
  exact ⟨h3.1, by omega⟩
end REL
