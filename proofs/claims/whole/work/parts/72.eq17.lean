/-! CLASS AND REFERENCE: the orders of a plan are done -/
theorem rbL_gt {B : Nat → Int32} {tn : Nat} : ∀ f o p O, 1 ≤ f → o < (rbL B tn f o p O).1
  | 0, _, _, _, h => by omega
  | f + 1, o, p, O, _ => by
    unfold rbL
    split
    · split
      · by_cases hf : 1 ≤ f
        · have := rbL_gt (B := B) (tn := tn) f (o + 1) ((roR B tn p 99 O o).1 + 1) (roR B tn p 99 O o).2.2 hf
          omega
        · obtain rfl : f = 0 := by omega
          exact Nat.lt_succ_self o
      · exact Nat.lt_succ_self o
    · exact Nat.lt_succ_self o
theorem rbL_low {B : Nat → Int32} {tn : Nat} (ht : tn ≤ 60) : ∀ f o p O, pI tn p 99 → (rbL B tn f o p O).2.2.1 = 99 → ∀ j, j < 5 * o → (rbL B tn f o p O).2.2.2 j = O j
  | 0, _, _, _, _, _, _, _ => rfl
  | f + 1, o, p, O, hp, h, j, hj => by
    have hpi := roR_pI (B := B) (O := O) (o := o) ht hp
    by_cases c : (roR B tn p 99 O o).2.1 = 99 ∧ (roR B tn p 99 O o).1 < tn
    · have hk := (roR_ok ht hp c.1).2
      by_cases c2 : ltr B tn (roR B tn p 99 O o).1 = nI 59
      · have e : rbL B tn (f + 1) o p O = rbL B tn f (o + 1) ((roR B tn p 99 O o).1 + 1) (roR B tn p 99 O o).2.2 := rbL_on (f := f + 1) (by omega) rfl c c2
        rw [e] at h ⊢
        rw [rbL_low ht f (o + 1) _ _ ⟨by omega, fun _ => by omega, Nat.le_refl _⟩ h j (by omega)]
        exact hk j hj
      · rw [rbL_bad (by omega) rfl c c2]; exact hk j hj
    · have e := rbL_end (f := f + 1) (by omega) rfl c
      rw [e] at h ⊢
      exact (roR_ok ht hp h).2 j hj
theorem od_eq {M Z O A : Nat → Int32} {n o : Nat} {k : Int32} (he : eqZ M Z n) (hr : rI Z n) (hk : O (5 * o) = k) (hc : (k = nI 115 ∧ ∀ i, i < 4 → O (5 * o + 1 + i) = A i) ∨ (k = nI 112 ∧ ∀ i, i < 2 → O (5 * o + 1 + i) = A i) ∨ (k = nI 104 ∧ ∀ i, i < 1 → O (5 * o + 1 + i) = A i)) (hok : okO O o) :
    cdB M n A k = dsB Z n O (5 * o) ∧ cdN n k = dsN n O (5 * o) ∧ (dsB Z n O (5 * o) = true → eqZ (cdM M n A k) (dsZ Z n O (5 * o)) (dsN n O (5 * o)) ∧ rI (dsZ Z n O (5 * o)) (dsN n O (5 * o))) := by
  have d1 : ¬ nI 112 = nI 115 := by decide
  have d2 : ¬ nI 104 = nI 115 := by decide
  have d3 : ¬ nI 104 = nI 112 := by decide
  have hO := hr.1
  have h10 := hO.1
  rcases hc with ⟨k1, k2⟩ | ⟨k1, k2⟩ | ⟨k1, k2⟩
  · subst k1
    have a0 := k2 0 (by omega); have a1 := k2 1 (by omega); have a2 := k2 2 (by omega); have a3 := k2 3 (by omega)
    rcases hok with ⟨_, p1, p2, p3, p4⟩ | ⟨q, _⟩ | ⟨q, _⟩
    · unfold cdB dsB cdN dsN
      rw [if_pos rfl, if_pos hk, if_pos rfl, if_pos hk]
      refine ⟨rfl, rfl, fun hn => ?_⟩
      have hn' := of_decide_eq_true hn
      unfold cdM dsZ
      rw [if_pos rfl, if_neg (by unfold dsB; rw [if_pos hk, hn]; simp), if_pos hk, ← a0, ← a1, ← a2, ← a3]
      exact ⟨come_eq he, rI_come hr hn' p1 p4⟩
    · rw [hk] at q; exact absurd q.symm d1
    · rw [hk] at q; exact absurd q.symm d2
  · subst k1
    have a0 := k2 0 (by omega); have a1 := k2 1 (by omega)
    rcases hok with ⟨q, _⟩ | ⟨_, p1, p2⟩ | ⟨q, _⟩
    · rw [hk] at q; exact absurd q d1
    · obtain ⟨u, u1, u2, u3⟩ := inB_ex (by omega) (by omega) p1
      obtain ⟨v, v1, v2, v3⟩ := inB_ex (by omega) (by omega) p2
      have a0' : A 0 = nI u := a0.symm.trans u3
      have a1' : A 1 = nI v := a1.symm.trans v3
      have iu : iN (nI u) = u := nI_iN (by omega) rfl
      have hat := at_eqZ (q := v) he hO hr.2.2.1 (by omega)
      have hz4 : Z 4 = nI n := (oI_mW hO).1
      have hin : inB (nI v) 0 11 = true := by
        show inB (nI v) (nI 0) (nI 11) = true
        unfold inB; rw [decide_eq_true (nI_le v1 (by omega)), decide_eq_true (nI_le v2 (by omega))]; rfl
      have hst : stB Z (nI u) = decide (u < n) := by
        unfold stB
        rw [hz4, decide_eq_true (nI_pos' (n := u) (by omega)), Bool.true_and]
        exact decide_eq_decide.mpr (nI_ltI (by omega) (by omega))
      have eB : cdB M n A (nI 112) = dsB Z n O (5 * o) := by
        unfold cdB dsB wnp
        rw [if_neg d1, if_pos rfl, if_neg (by rw [hk]; exact d1), if_pos hk, u3, v3, hst, hin, a0', a1', iu, hat]
        by_cases c : u < n
        · rw [decide_eq_true c, if_neg (by simp), if_neg (by simp), Bool.true_and]
          by_cases c2 : ox (satN Z (nI v) n) = -1
          · rw [if_pos c2, decide_eq_true c2]; rfl
          · rw [if_neg c2, decide_eq_false c2]; rfl
        · rw [decide_eq_false c, if_pos rfl]; rfl
      refine ⟨eB, ?_, fun hd => ?_⟩
      · unfold cdN dsN; rw [if_neg d1, if_neg (by rw [hk]; exact d1)]
      · have hd2 := eB.trans hd
        unfold cdB at hd2
        rw [if_neg d1, if_pos rfl, a0', a1', iu, hat, Bool.and_eq_true, decide_eq_true_eq, decide_eq_true_eq] at hd2
        unfold cdM dsZ dsN
        rw [if_neg d1, if_pos rfl, if_neg (by rw [hd]; simp), if_neg (by rw [hk]; exact d1), if_pos hk, if_neg (by rw [hk]; exact d1), u3, v3, a0', a1', iu]
        exact ⟨eqZ_upd he, rI_plug hr hd2.1 (by omega) (sat_free h10 hd2.2)⟩
    · rw [hk] at q; exact absurd q.symm d3
  · subst k1
    have a0 := k2 0 (by omega)
    rcases hok with ⟨q, _⟩ | ⟨q, _⟩ | ⟨_, p1⟩
    · rw [hk] at q; exact absurd q d2
    · rw [hk] at q; exact absurd q d3
    · obtain ⟨u, u1, u2, u3⟩ := inB_ex (by omega) (by omega) p1
      have a0' : A 0 = nI u := a0.symm.trans u3
      have iu : iN (nI u) = u := nI_iN (by omega) rfl
      have eB : cdB M n A (nI 104) = dsB Z n O (5 * o) := by
        unfold cdB dsB
        rw [if_neg d2, if_neg d3, if_neg (by rw [hk]; exact d2), if_neg (by rw [hk]; exact d3), u3, a0', he 3 (by omega)]
      refine ⟨eB, ?_, fun hd => ?_⟩
      · unfold cdN dsN; rw [if_neg d2, if_neg (by rw [hk]; exact d2)]
      · have hd2 := hd
        unfold dsB at hd2
        rw [if_neg (by rw [hk]; exact d2), if_neg (by rw [hk]; exact d3), u3, decide_eq_true_eq] at hd2
        unfold cdM dsZ dsN
        rw [if_neg d2, if_neg d3, if_neg (by rw [hd]; simp), if_neg (by rw [hk]; exact d2), if_neg (by rw [hk]; exact d3), if_neg (by rw [hk]; exact d2), u3, a0', iu]
        exact ⟨(hs_all he hO hr.2.1 u).1, rI_hs hr u2 hd2⟩
theorem pO_end {B : Nat → Int32} {tn p : Nat} {A : Nat → Int32} {kd : Int32} (h : tn ≤ p) : (pO B tn p A kd).1 = false := by
  have e : ∀ c, pS B tn p c = false := fun c => by unfold pS; rw [decide_eq_false (by omega)]; rfl
  unfold pO
  rw [e, e, e, if_neg Bool.false_ne_true, if_neg Bool.false_ne_true, if_neg Bool.false_ne_true]
theorem do_eq {B : Nat → Int32} {tn : Nat} (h : gB B tn) (ht : tn ≤ 60) : ∀ fc fr fo o p A kd O X Z n, p ≤ tn → tn - p + 3 ≤ 3 * fc → tn - p + 3 ≤ 3 * fr → tn - p + 3 ≤ 3 * fo → (rbL B tn fr o p O).2.2.1 = 99 → eqZ (X 0) Z n → rI Z n →
    (cOr B tn fc o X n p A kd).1 = (opL (rbL B tn fr o p O).2.2.2 (rbL B tn fr o p O).1 fo o Z n).1 ∧ (cOr B tn fc o X n p A kd).2.2.1 = (opL (rbL B tn fr o p O).2.2.2 (rbL B tn fr o p O).1 fo o Z n).2.2 ∧ eqZ ((cOr B tn fc o X n p A kd).2.1 0) (opL (rbL B tn fr o p O).2.2.2 (rbL B tn fr o p O).1 fo o Z n).2.1 (opL (rbL B tn fr o p O).2.2.2 (rbL B tn fr o p O).1 fo o Z n).2.2 ∧ rI (opL (rbL B tn fr o p O).2.2.2 (rbL B tn fr o p O).1 fo o Z n).2.1 (opL (rbL B tn fr o p O).2.2.2 (rbL B tn fr o p O).1 fo o Z n).2.2 ∧ ∀ j, j ≠ 0 → (cOr B tn fc o X n p A kd).2.1 j = X j
  | 0, _, _, _, _, _, _, _, _, _, _, _, h1, _, _, _, _, _ => by omega
  | _ + 1, 0, _, _, _, _, _, _, _, _, _, _, _, h2, _, _, _, _ => by omega
  | _ + 1, _ + 1, 0, _, _, _, _, _, _, _, _, _, _, _, h3, _, _, _ => by omega
  | fc + 1, fr + 1, fo + 1, o, p, A, kd, O, X, Z, n, hp, h1, h2, h3, hw, he, hr => by
    have ho := ord_eq (o := o) (A := A) (O := O) (kd := kd) h ht hp
    have hpi : pI tn p 99 := ⟨by omega, fun _ => hp, Nat.le_refl _⟩
    have hg := roR_g (B := B) (O := O) (o := o) (r := roR B tn p 99 O o) rfl ht hpi
    obtain ⟨a0, a1⟩ := ho
    rcases a1 with ⟨b1, b2, b3, b4, b5⟩ | ⟨b1, b2⟩
    · have hgt := rbL_gt (B := B) (tn := tn) (fr + 1) o p O (by omega)
      have hroK := roR_ok (B := B) (O := O) (o := o) ht hpi b2
      have hg2 := hg b2
      -- what the last row of orders holds of this order
      have hlow : ∀ j, j < 5 * o + 5 → (rbL B tn (fr + 1) o p O).2.2.2 j = (roR B tn p 99 O o).2.2 j := fun j hj => by
        by_cases c : (roR B tn p 99 O o).1 < tn
        · by_cases c2 : ltr B tn (roR B tn p 99 O o).1 = nI 59
          · have e := rbL_on (f := fr + 1) (o := o) (p := p) (O := O) (by omega) rfl ⟨b2, c⟩ c2
            have e9 : rbL B tn (fr + 1) o p O = rbL B tn fr (o + 1) ((roR B tn p 99 O o).1 + 1) (roR B tn p 99 O o).2.2 := e
            rw [e9] at hw ⊢
            exact rbL_low ht fr (o + 1) _ _ ⟨by omega, fun _ => by omega, Nat.le_refl _⟩ hw j (by omega)
          · rw [rbL_bad (by omega) rfl ⟨b2, c⟩ c2]
        · rw [rbL_end (by omega) rfl (fun q => c q.2)]
      have hok : okO (rbL B tn (fr + 1) o p O).2.2.2 o := okO_c (fun j hj => hlow j hj) hroK.1
      have hkk : (rbL B tn (fr + 1) o p O).2.2.2 (5 * o) = (pO B tn p A kd).2.2.2 := (hlow _ (by omega)).trans b4
      have hcc : ((pO B tn p A kd).2.2.2 = nI 115 ∧ ∀ i, i < 4 → (rbL B tn (fr + 1) o p O).2.2.2 (5 * o + 1 + i) = (pO B tn p A kd).2.2.1 i) ∨ ((pO B tn p A kd).2.2.2 = nI 112 ∧ ∀ i, i < 2 → (rbL B tn (fr + 1) o p O).2.2.2 (5 * o + 1 + i) = (pO B tn p A kd).2.2.1 i) ∨ ((pO B tn p A kd).2.2.2 = nI 104 ∧ ∀ i, i < 1 → (rbL B tn (fr + 1) o p O).2.2.2 (5 * o + 1 + i) = (pO B tn p A kd).2.2.1 i) := by
        rcases b5 with ⟨q1, q2⟩ | ⟨q1, q2⟩ | ⟨q1, q2⟩
        · exact Or.inl ⟨q1, fun i hi => (hlow _ (by omega)).trans (q2 i hi)⟩
        · exact Or.inr (Or.inl ⟨q1, fun i hi => (hlow _ (by omega)).trans (q2 i hi)⟩)
        · exact Or.inr (Or.inr ⟨q1, fun i hi => (hlow _ (by omega)).trans (q2 i hi)⟩)
      obtain ⟨e1, e2, e3⟩ := od_eq he hr hkk hcc hok
      by_cases d : dsB Z n (rbL B tn (fr + 1) o p O).2.2.2 (5 * o) = true
      · obtain ⟨f1, f2⟩ := e3 d
        rw [cOr_go (f := fc + 1) (by omega) rfl b1 (e1.trans d), opL_go (f := fo + 1) (by omega) ⟨hgt, d⟩, e2]
        have em : cdMs X n (pO B tn p A kd).2.2.1 (pO B tn p A kd).2.2.2 = va_up X 0 (cdM (X 0) n (pO B tn p A kd).2.2.1 (pO B tn p A kd).2.2.2) := by unfold cdMs; rw [if_pos (e1.trans d)]
        have hx : eqZ (cdMs X n (pO B tn p A kd).2.2.1 (pO B tn p A kd).2.2.2 0) (dsZ Z n (rbL B tn (fr + 1) o p O).2.2.2 (5 * o)) (dsN n (rbL B tn (fr + 1) o p O).2.2.2 (5 * o)) := by rw [em, vup_s]; exact f1
        have hoth : ∀ j, j ≠ 0 → cdMs X n (pO B tn p A kd).2.2.1 (pO B tn p A kd).2.2.2 j = X j := fun j hj => by rw [em]; exact va_up_ne _ _ hj
        rw [Nat.add_sub_cancel, Nat.add_sub_cancel]
        by_cases c : (roR B tn p 99 O o).1 < tn
        · by_cases c2 : ltr B tn (roR B tn p 99 O o).1 = nI 59
          · have e := rbL_on (f := fr + 1) (o := o) (p := p) (O := O) (by omega) rfl ⟨b2, c⟩ c2
            have e' : rbL B tn (fr + 1) o p O = rbL B tn fr (o + 1) ((roR B tn p 99 O o).1 + 1) (roR B tn p 99 O o).2.2 := e
            have hsp : sP B tn (pO B tn p A kd).2.1 (nI 59) = (roR B tn p 99 O o).1 + 1 := by
              unfold sP; rw [pS_ltr (by omega), ← b3, if_pos (decide_eq_true c2)]
            rw [hsp]
            rw [e'] at hw hx f2 ⊢
            have ih := do_eq h ht fc fr fo (o + 1) ((roR B tn p 99 O o).1 + 1) (pO B tn p A kd).2.2.1 (pO B tn p A kd).2.2.2 (roR B tn p 99 O o).2.2 (cdMs X n (pO B tn p A kd).2.2.1 (pO B tn p A kd).2.2.2) _ _ (by omega) (by omega) (by omega) (by omega) hw hx f2
            obtain ⟨g1, g2, g3, g4, g5⟩ := ih
            exact ⟨g1, g2, g3, g4, fun j hj => (g5 j hj).trans (hoth j hj)⟩
          · rw [rbL_bad (by omega) rfl ⟨b2, c⟩ c2] at hw
            have : (roR B tn p 99 O o).1 = 99 := hw
            omega
        · have e' := rbL_end (f := fr + 1) (o := o) (p := p) (O := O) (tn := tn) (B := B) (by omega) rfl (fun q => c q.2)
          have hsp : sP B tn (pO B tn p A kd).2.1 (nI 59) = (pO B tn p A kd).2.1 := by
            unfold sP pS; rw [decide_eq_false (by omega), Bool.false_and, if_neg Bool.false_ne_true]
          rw [hsp]
          rw [e'] at hx f2 ⊢
          rw [opL_no (f := fo) (fun q => absurd q.1 (by show ¬ o + 1 < o + 1; omega)), cOr_no (f := fc) (by omega) rfl (fun q => by rw [pO_end (by omega)] at q; exact Bool.false_ne_true q.1)]
          exact ⟨rfl, rfl, hx, f2, hoth⟩
      · rw [cOr_no (by omega) rfl (fun q => d (e1.symm.trans q.2)), opL_no (fun q => d q.2)]
        exact ⟨rfl, rfl, he, hr, fun _ _ => rfl⟩
    · have e' := rbL_end (f := fr + 1) (o := o) (p := p) (O := O) (tn := tn) (B := B) (by omega) rfl (fun q => by omega)
      rw [e'] at hw
      have : (roR B tn p 99 O o).2.1 = 99 := hw
      omega
/-- a plan opened -/
theorem op_eq {B : Nat → Int32} {F X : Nat → Nat → Int32} {Z A : Nat → Int32} {n tn : Nat} {kd : Int32} (hB : F 6 = B) (h : gB B tn) (ht : tn ≤ 60) (hw : (rbR B tn (F 7)).2.2.1 = 99) (he : eqZ (X 0) Z n) (hr : rI Z n) :
    (cOr B tn 60 0 X n 0 A kd).1 = (opR F tn Z n).1 ∧ (cOr B tn 60 0 X n 0 A kd).2.2.1 = (opR F tn Z n).2.2 ∧ eqZ ((cOr B tn 60 0 X n 0 A kd).2.1 0) (opR F tn Z n).2.1 (opR F tn Z n).2.2 ∧ rI (opR F tn Z n).2.1 (opR F tn Z n).2.2 ∧ ∀ j, j ≠ 0 → (cOr B tn 60 0 X n 0 A kd).2.1 j = X j := by
  subst hB
  exact do_eq h ht 60 22 22 0 0 A kd (F 7) X Z n (Nat.zero_le _) (by omega) (by omega) (by omega) hw he hr
