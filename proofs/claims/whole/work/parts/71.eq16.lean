/-! CLASS AND REFERENCE: how a text is read -/
def gB (B : Nat → Int32) (tn : Nat) : Prop := ∀ j, j < tn → ∃ c, 33 ≤ c ∧ c ≤ 126 ∧ B j = nI c
theorem dig_cases {B : Nat → Int32} {tn p : Nat} (h : gB B tn) : (pD B tn p = -1 ∧ ∀ lo, lo < 100 → inB (nuD B tn p) (nI lo) (nI 9) = false) ∨ (p < tn ∧ ∃ d, d ≤ 9 ∧ pD B tn p = nI d ∧ nuD B tn p = nI d) := by
  by_cases c : p < tn
  · obtain ⟨a, a1, a2, a3⟩ := h p c
    have e : nuD B tn p = nI a - nI 48 := by unfold nuD ltr; rw [if_pos c, a3]
    have e2 : pD B tn p = if nI a < nI 48 then -1 else if nI a ≤ nI 57 then nI a - nI 48 else -1 := by unfold pD; rw [if_pos c, a3]
    by_cases c1 : a < 48
    · left
      refine ⟨by rw [e2, if_pos (nI_lt c1 (by omega))], fun lo hlo => ?_⟩
      rw [e]
      unfold inB
      rw [Bool.and_eq_false_iff]
      left
      rw [decide_eq_false_iff_not, Int32.le_iff_toInt_le, Int32.toInt_sub, nI_toInt (by omega), nI_toInt (by omega), nI_toInt (by omega), Int.bmod_eq_of_le (by omega) (by omega)]
      omega
    · rw [nI_sb (by omega)] at e e2
      by_cases c2 : a ≤ 57
      · right
        refine ⟨c, a - 48, by omega, ?_, e⟩
        rw [e2, if_neg (nI_nlt (by omega) (by omega)), if_pos (nI_le c2 (by omega))]
      · left
        refine ⟨by rw [e2, if_neg (nI_nlt (by omega) (by omega)), if_neg (nI_ge (by omega) (by omega))], fun lo hlo => ?_⟩
        rw [e]
        unfold inB
        rw [Bool.and_eq_false_iff]
        right
        rw [decide_eq_false_iff_not]
        exact nI_ge (by omega) (by omega)
  · left
    refine ⟨by unfold pD; rw [if_neg c], fun lo hlo => ?_⟩
    have e : nuD B tn p = -1 - nI 48 := by unfold nuD ltr; rw [if_neg c]
    rw [e]
    unfold inB
    rw [Bool.and_eq_false_iff]
    left
    rw [decide_eq_false_iff_not, Int32.le_iff_toInt_le, nI_toInt (by omega)]
    have : (-1 - nI 48 : Int32).toInt = -49 := by decide
    rw [this]; omega
theorem pC_nu {B : Nat → Int32} {tn p : Nat} {hi v : Int32} (h : gB B tn) : pC B tn hi v p = nuC B tn v p hi := by
  unfold pC nuC
  rcases dig_cases (p := p) h with ⟨h1, h2⟩ | ⟨h1, d, d1, d2, d3⟩
  · rw [h1, h2 0 (by omega), decide_eq_true (rfl : (-1 : Int32) = -1), Bool.not_true, Bool.and_false, Bool.false_and, Bool.and_false, Bool.false_and]
  · have e : inB (nI d) (nI 0) (nI 9) = true := by unfold inB; rw [decide_eq_true (nI_le (Nat.zero_le d) (by omega)), decide_eq_true (nI_le d1 (by omega))]; rfl
    rw [d2, d3, decide_eq_true h1, decide_eq_false (nI_nm1 (by omega)), e, Bool.true_and, Bool.not_false]
theorem pL_nu {B : Nat → Int32} {tn : Nat} {hi : Int32} (h : gB B tn) : ∀ f f2 v p, p ≤ tn → tn - p ≤ f → tn - p ≤ f2 → pL B tn hi f v p = nuL B tn hi f2 v p
  | f, f2, v, p, hp, h1, h2 => by
    by_cases c : pC B tn hi v p = true
    · have hl := pC_lt c
      match f, f2, h1, h2 with
      | 0, _, h1, _ => omega
      | _ + 1, 0, _, h2 => omega
      | f + 1, f2 + 1, h1, h2 =>
        rw [pL_go (by omega) c, nuL_go (by omega) ((pC_nu h).symm.trans c)]
        have e : pD B tn p = nuD B tn p := by
          rcases dig_cases (p := p) h with ⟨q1, q2⟩ | ⟨q1, d, d1, d2, d3⟩
          · unfold pC at c; rw [q1] at c; simp at c
          · rw [d2, d3]
        rw [e]
        exact pL_nu h f f2 _ _ (by omega) (by omega) (by omega)
    · have c' : pC B tn hi v p = false := by simpa using c
      rw [pL_no c', nuL_no ((pC_nu h).symm.trans c')]
termination_by f => f
theorem num_ok {B : Nat → Int32} {tn p lo : Nat} {hi : Int32} (h : gB B tn) (ht : tn ≤ 60) (hlo : lo < 100) (hp : p ≤ tn) (h1 : (pN B tn p (nI lo) hi).1 = true) : nuR B tn p 99 (nI lo) hi = ((pN B tn p (nI lo) hi).2.2, (pN B tn p (nI lo) hi).2.1, 99) ∧ (pN B tn p (nI lo) hi).2.1 ≤ tn := by
  unfold pN at h1 ⊢
  by_cases c : pD B tn p < nI lo
  · rw [if_pos c] at h1; exact absurd h1 Bool.false_ne_true
  · rw [if_neg c]
    rcases dig_cases (p := p) h with ⟨q1, q2⟩ | ⟨q1, d, d1, d2, d3⟩
    · rw [q1] at c
      refine absurd ?_ c
      rw [Int32.lt_iff_toInt_lt, nI_toInt (by omega)]
      have : (-1 : Int32).toInt = -1 := by decide
      rw [this]; omega
    · rw [d2] at c
      have hd : lo ≤ d := Nat.le_of_not_lt (fun q => c (nI_lt q (by omega)))
      have hin : inB (nuD B tn p) (nI lo) (nI 9) = true := by rw [d3]; unfold inB; rw [decide_eq_true (nI_le hd (by omega)), decide_eq_true (nI_le d1 (by omega))]; rfl
      have hL := pL_nu (hi := hi) h 61 62 (pD B tn p) (p + 1) (by omega) (by omega) (by omega)
      have hle := pL_le (B := B) (tn := tn) (hi := hi) 61 (pD B tn p) (p + 1) (by omega)
      unfold nuR
      rw [hin]
      have hw : wnW p 99 true = 99 := rfl
      have hpp : wnP p 99 = p + 1 := rfl
      rw [hw, if_pos rfl, hpp, d3, ← d2, hL]
      rw [hL] at hle
      exact ⟨rfl, hle⟩
theorem num_no {B : Nat → Int32} {tn p lo : Nat} {hi : Int32} (h : gB B tn) (hlo : lo < 100) (hp : p ≤ 60) (h1 : (pN B tn p (nI lo) hi).1 = false) : nuR B tn p 99 (nI lo) hi = (nuD B tn p, p + 1, p) ∧ (pN B tn p (nI lo) hi).2.1 = p := by
  unfold pN at h1 ⊢
  by_cases c : pD B tn p < nI lo
  · rw [if_pos c]
    have hin : inB (nuD B tn p) (nI lo) (nI 9) = false := by
      rcases dig_cases (p := p) h with ⟨q1, q2⟩ | ⟨q1, d, d1, d2, d3⟩
      · exact q2 lo hlo
      · rw [d2] at c
        rw [d3]; unfold inB
        rw [decide_eq_false (Int32.not_le.mpr c)]; rfl
    unfold nuR
    rw [hin]
    have hw : wnW p 99 false = p := rfl
    have hpp : wnP p 99 = p + 1 := rfl
    rw [hw, if_neg (by omega), hpp]
    exact ⟨rfl, rfl⟩
  · rw [if_neg c] at h1; exact absurd h1.symm Bool.false_ne_true
theorem num_w {B : Nat → Int32} {tn p w : Nat} {lo hi : Int32} (h : w ≠ 99) : (nuR B tn p w lo hi).2.1 = p ∧ (nuR B tn p w lo hi).2.2 = w := by
  have hw : ∀ b, wnW p w b = w := fun b => if_neg h
  have hpp : wnP p w = p := if_neg h
  unfold nuR
  rw [hw, if_neg h, hpp]
  exact ⟨rfl, rfl⟩
theorem pS_ltr {B : Nat → Int32} {tn p c : Nat} (hc : c < 2147483648) : pS B tn p (nI c) = decide (ltr B tn p = nI c) := by
  unfold pS ltr
  by_cases q : p < tn
  · rw [if_pos q, decide_eq_true q, Bool.true_and]
  · rw [if_neg q, decide_eq_false q, Bool.false_and, decide_eq_false (fun w => nI_nm1 hc w.symm)]
/-- a reading under way: the class's s, the reference's r: m numbers are read, kk is the kind -/
def stR (tn to m : Nat) (kk : Int32) (s : Bool × Nat × (Nat → Int32)) (r : Nat × Nat × (Nat → Int32)) : Prop :=
  s.2.1 ≤ tn ∧ r.2.2 to = kk ∧ ((s.1 = true ∧ r.2.1 = 99 ∧ r.1 = s.2.1 ∧ ∀ i, i < m → r.2.2 (to + 1 + i) = s.2.2 i) ∨ (s.1 = false ∧ r.2.1 = s.2.1))
theorem nf_st {B : Nat → Int32} {tn to m lo : Nat} {kk hi : Int32} {s : Bool × Nat × (Nat → Int32)} {r : Nat × Nat × (Nat → Int32)} (h : gB B tn) (ht : tn ≤ 60) (hlo : lo < 100) (hs : stR tn to m kk s r) : stR tn to (m + 1) kk (pNS B tn s m (nI lo) hi) (nfR B tn r.1 r.2.1 r.2.2 (nI lo) hi (to + 1 + m)) := by
  obtain ⟨s0, s1, s2⟩ := hs
  rcases s2 with ⟨t1, t2, t3, t4⟩ | ⟨t1, t2⟩
  · unfold pNS nfR
    rw [if_pos t1, t2, t3]
    cases c : (pN B tn s.2.1 (nI lo) hi).1
    · obtain ⟨q1, q2⟩ := num_no (hi := hi) h hlo (show s.2.1 ≤ 60 by omega) c
      rw [q1]
      refine ⟨by rw [q2]; exact s0, (upd_n (show to ≠ to + 1 + m by omega)).trans s1, Or.inr ⟨rfl, q2.symm⟩⟩
    · obtain ⟨q1, q2⟩ := num_ok (hi := hi) h ht hlo s0 c
      rw [q1]
      refine ⟨q2, (upd_n (show to ≠ to + 1 + m by omega)).trans s1, Or.inl ⟨rfl, rfl, rfl, fun i hi' => ?_⟩⟩
      show upd r.2.2 (to + 1 + m) _ (to + 1 + i) = nA s.2.2 m (pN B tn s.2.1 (nI lo) hi) i
      unfold nA
      rw [if_pos c]
      by_cases e : i = m
      · subst e; rw [upd_s, upd_s]
      · rw [upd_n (by omega), upd_n (by omega)]; exact t4 i (by omega)
  · have hw : r.2.1 ≠ 99 := by rw [t2]; omega
    obtain ⟨q1, q2⟩ := num_w (B := B) (tn := tn) (p := r.1) (lo := nI lo) (hi := hi) hw
    unfold pNS nfR
    rw [if_neg (by rw [t1]; exact Bool.false_ne_true)]
    exact ⟨s0, (upd_n (show to ≠ to + 1 + m by omega)).trans s1, Or.inr ⟨t1, q2.trans t2⟩⟩
theorem ns_st {B : Nat → Int32} {tn to m lo c : Nat} {kk hi : Int32} {s : Bool × Nat × (Nat → Int32)} {r : Nat × Nat × (Nat → Int32)} (h : gB B tn) (ht : tn ≤ 60) (hlo : lo < 100) (hc : c < 2147483648) (hs : stR tn to m kk s r) : stR tn to (m + 1) kk (pSS B tn (pNS B tn s m (nI lo) hi) (nI c)) (nsR B tn r.1 r.2.1 r.2.2 (nI lo) hi (to + 1 + m) (nI c)) := by
  have hn := nf_st (hi := hi) h ht hlo hs
  have e : nsR B tn r.1 r.2.1 r.2.2 (nI lo) hi (to + 1 + m) (nI c) = (wnP (nfR B tn r.1 r.2.1 r.2.2 (nI lo) hi (to + 1 + m)).1 (nfR B tn r.1 r.2.1 r.2.2 (nI lo) hi (to + 1 + m)).2.1, wnW (nfR B tn r.1 r.2.1 r.2.2 (nI lo) hi (to + 1 + m)).1 (nfR B tn r.1 r.2.1 r.2.2 (nI lo) hi (to + 1 + m)).2.1 (decide (ltr B tn (nfR B tn r.1 r.2.1 r.2.2 (nI lo) hi (to + 1 + m)).1 = nI c)), (nfR B tn r.1 r.2.1 r.2.2 (nI lo) hi (to + 1 + m)).2.2) := rfl
  rw [e]
  generalize nfR B tn r.1 r.2.1 r.2.2 (nI lo) hi (to + 1 + m) = u at hn ⊢
  generalize pNS B tn s m (nI lo) hi = v at hn ⊢
  obtain ⟨s0, s1, s2⟩ := hn
  rcases s2 with ⟨t1, t2, t3, t4⟩ | ⟨t1, t2⟩
  · unfold pSS
    rw [if_pos t1, t2, t3, ← pS_ltr hc]
    by_cases q : pS B tn v.2.1 (nI c) = true
    · have ql := pS_lt q
      have e2 : sP B tn v.2.1 (nI c) = v.2.1 + 1 := if_pos q
      rw [e2, q]
      exact ⟨by show v.2.1 + 1 ≤ tn; omega, s1, Or.inl ⟨rfl, rfl, rfl, t4⟩⟩
    · have qf : pS B tn v.2.1 (nI c) = false := by simpa using q
      have e2 : sP B tn v.2.1 (nI c) = v.2.1 := if_neg q
      rw [e2, qf]
      exact ⟨s0, s1, Or.inr ⟨rfl, rfl⟩⟩
  · have hw : u.2.1 ≠ 99 := by rw [t2]; omega
    unfold pSS
    rw [if_neg (by rw [t1]; exact Bool.false_ne_true)]
    exact ⟨s0, s1, Or.inr ⟨t1, (show wnW _ _ _ = u.2.1 from if_neg hw).trans t2⟩⟩
/-- an order read: the class's, the reference's -/
def orR (tn o : Nat) (s : Bool × Nat × (Nat → Int32) × Int32) (r : Nat × Nat × (Nat → Int32)) : Prop :=
  s.2.1 ≤ tn ∧ ((s.1 = true ∧ r.2.1 = 99 ∧ r.1 = s.2.1 ∧ r.2.2 (5 * o) = s.2.2.2 ∧ ((s.2.2.2 = nI 115 ∧ ∀ i, i < 4 → r.2.2 (5 * o + 1 + i) = s.2.2.1 i) ∨ (s.2.2.2 = nI 112 ∧ ∀ i, i < 2 → r.2.2 (5 * o + 1 + i) = s.2.2.1 i) ∨ (s.2.2.2 = nI 104 ∧ ∀ i, i < 1 → r.2.2 (5 * o + 1 + i) = s.2.2.1 i))) ∨ (s.1 = false ∧ r.2.1 = s.2.1))
theorem ord_eq {B : Nat → Int32} {tn p o : Nat} {A O : Nat → Int32} {kd : Int32} (h : gB B tn) (ht : tn ≤ 60) (hp : p ≤ tn) : orR tn o (pO B tn p A kd) (roR B tn p 99 O o) := by
  have hw : wnW p 99 true = 99 := rfl
  have hpp : wnP p 99 = p + 1 := rfl
  unfold pO
  by_cases c1 : pS B tn p (nI 115) = true
  · have q := c1
    rw [pS_ltr (by omega), decide_eq_true_eq] at q
    rw [if_pos c1, roR_s q, hw, hpp, q]
    have hl := pS_lt c1
    have s0 : stR tn (5 * o) 0 (nI 115) (true, p + 1, A) (p + 1, 99, upd O (5 * o) (nI 115)) := ⟨by show p + 1 ≤ tn; omega, upd_s, Or.inl ⟨rfl, rfl, rfl, fun i hi => absurd hi (Nat.not_lt_zero _)⟩⟩
    generalize upd O (5 * o) (nI 115) = O0 at s0 ⊢
    have s1 : stR tn (5 * o) 1 (nI 115) (pSS B tn (pNS B tn (true, p + 1, A) 0 (nI 1) (nI 500)) (nI 64)) (rs1 B tn (p + 1) 99 O0 (5 * o)) := ns_st (lo := 1) (c := 64) (hi := nI 500) h ht (by omega) (by omega) s0
    have s2 : stR tn (5 * o) 2 (nI 115) (pSS B tn (pNS B tn (pSS B tn (pNS B tn (true, p + 1, A) 0 (nI 1) (nI 500)) (nI 64)) 1 (nI 0) (nI 23)) (nI 45)) (rs2 B tn (p + 1) 99 O0 (5 * o)) := ns_st (lo := 0) (c := 45) (hi := nI 23) h ht (by omega) (by omega) s1
    generalize hu1 : pSS B tn (pNS B tn (pSS B tn (pNS B tn (true, p + 1, A) 0 (nI 1) (nI 500)) (nI 64)) 1 (nI 0) (nI 23)) (nI 45) = u1 at s2
    have s3 : stR tn (5 * o) 3 (nI 115) (pSS B tn (pNS B tn u1 2 (nI 0) (nI 23)) (nI 42)) (rs3 B tn (p + 1) 99 O0 (5 * o)) := ns_st (lo := 0) (c := 42) (hi := nI 23) h ht (by omega) (by omega) s2
    have s4 : stR tn (5 * o) 4 (nI 115) (pNS B tn (pSS B tn (pNS B tn u1 2 (nI 0) (nI 23)) (nI 42)) 3 (nI 1) (nI 9)) (rsR B tn (p + 1) 99 O0 (5 * o)) := nf_st (lo := 1) (hi := nI 9) h ht (by omega) s3
    have s5 : stR tn (5 * o) 4 (nI 115) (pOs B tn (p + 1) A) (rsR B tn (p + 1) 99 O0 (5 * o)) := by unfold pOs; rw [hu1]; exact s4
    obtain ⟨a1, a2, a3⟩ := s5
    refine ⟨a1, ?_⟩
    rcases a3 with ⟨b1, b2, b3, b4⟩ | ⟨b1, b2⟩
    · exact Or.inl ⟨b1, b2, b3, a2, Or.inl ⟨rfl, b4⟩⟩
    · exact Or.inr ⟨b1, b2⟩
  · have q1 := c1
    rw [pS_ltr (by omega), decide_eq_true_eq] at q1
    rw [if_neg c1]
    by_cases c2 : pS B tn p (nI 112) = true
    · have q := c2
      rw [pS_ltr (by omega), decide_eq_true_eq] at q
      rw [if_pos c2, roR_p q1 q, hw, hpp, q]
      have hl := pS_lt c2
      have s0 : stR tn (5 * o) 0 (nI 112) (true, p + 1, A) (p + 1, 99, upd O (5 * o) (nI 112)) := ⟨by show p + 1 ≤ tn; omega, upd_s, Or.inl ⟨rfl, rfl, rfl, fun i hi => absurd hi (Nat.not_lt_zero _)⟩⟩
      generalize upd O (5 * o) (nI 112) = O0 at s0 ⊢
      have s1 : stR tn (5 * o) 1 (nI 112) (pSS B tn (pNS B tn (true, p + 1, A) 0 (nI 0) (nI 9)) (nI 61)) (rq1 B tn (p + 1) 99 O0 (5 * o)) := ns_st (lo := 0) (c := 61) (hi := nI 9) h ht (by omega) (by omega) s0
      have s5 : stR tn (5 * o) 2 (nI 112) (pOp B tn (p + 1) A) (rqR B tn (p + 1) 99 O0 (5 * o)) := nf_st (lo := 0) (hi := nI 11) h ht (by omega) s1
      obtain ⟨a1, a2, a3⟩ := s5
      refine ⟨a1, ?_⟩
      rcases a3 with ⟨b1, b2, b3, b4⟩ | ⟨b1, b2⟩
      · exact Or.inl ⟨b1, b2, b3, a2, Or.inr (Or.inl ⟨rfl, b4⟩)⟩
      · exact Or.inr ⟨b1, b2⟩
    · have q2 := c2
      rw [pS_ltr (by omega), decide_eq_true_eq] at q2
      rw [if_neg c2]
      by_cases c3 : pS B tn p (nI 104) = true
      · have q := c3
        rw [pS_ltr (by omega), decide_eq_true_eq] at q
        rw [if_pos c3, roR_h q1 q2 q, hw, hpp, q]
        have hl := pS_lt c3
        have s0 : stR tn (5 * o) 0 (nI 104) (true, p + 1, A) (p + 1, 99, upd O (5 * o) (nI 104)) := ⟨by show p + 1 ≤ tn; omega, upd_s, Or.inl ⟨rfl, rfl, rfl, fun i hi => absurd hi (Nat.not_lt_zero _)⟩⟩
        generalize upd O (5 * o) (nI 104) = O0 at s0 ⊢
        have s5 : stR tn (5 * o) 1 (nI 104) (pOh B tn (p + 1) A) (nfR B tn (p + 1) 99 O0 (nI 1) (nI 48) (5 * o + 1)) := nf_st (lo := 1) (hi := nI 48) h ht (by omega) s0
        obtain ⟨a1, a2, a3⟩ := s5
        refine ⟨a1, ?_⟩
        rcases a3 with ⟨b1, b2, b3, b4⟩ | ⟨b1, b2⟩
        · exact Or.inl ⟨b1, b2, b3, a2, Or.inr (Or.inr ⟨rfl, b4⟩)⟩
        · exact Or.inr ⟨b1, b2⟩
      · have q := c3
        rw [pS_ltr (by omega), decide_eq_true_eq] at q
        rw [if_neg c3, roR_x q1 q2 q]
        have hwf : wnW p 99 false = p := rfl
        rw [hwf, hpp]
        exact ⟨hp, Or.inr ⟨rfl, (num_w (p := p + 1) (show p ≠ 99 by omega)).2⟩⟩
/-- the whole buffer -/
theorem rd_eq {B : Nat → Int32} {tn : Nat} (h : gB B tn) (ht : tn ≤ 60) : ∀ fc fr o p A kd O, p ≤ tn → tn - p + 3 ≤ 3 * fc → tn - p + 3 ≤ 3 * fr →
    ((pW B tn fc p A kd).1 = true ∧ (rbL B tn fr o p O).2.2.1 = 99 ∧ (pW B tn fc p A kd).2.1 = tn) ∨ ((pW B tn fc p A kd).1 = false ∧ (rbL B tn fr o p O).2.2.1 = (pW B tn fc p A kd).2.1 ∧ (pW B tn fc p A kd).2.1 ≤ tn)
  | 0, _, _, _, _, _, _, _, h1, _ => by omega
  | _ + 1, 0, _, _, _, _, _, _, _, h2 => by omega
  | fc + 1, fr + 1, o, p, A, kd, O, hp, h1, h2 => by
    have ho := ord_eq (o := o) (A := A) (O := O) (kd := kd) h ht hp
    have hpi : pI tn p 99 := ⟨by omega, fun _ => hp, Nat.le_refl _⟩
    have hg := roR_g (B := B) (O := O) (o := o) (r := roR B tn p 99 O o) rfl ht hpi
    have eW : pW B tn (fc + 1) p A kd = if (pO B tn p A kd).1 = false then pO B tn p A kd else if tn ≤ (pO B tn p A kd).2.1 then (true, (pO B tn p A kd).2) else if pS B tn (pO B tn p A kd).2.1 (nI 59) = false then (false, (pO B tn p A kd).2) else pW B tn fc ((pO B tn p A kd).2.1 + 1) (pO B tn p A kd).2.2.1 (pO B tn p A kd).2.2.2 := rfl
    rw [eW]
    clear eW
    obtain ⟨a0, a1⟩ := ho
    rcases a1 with ⟨b1, b2, b3, b4, b5⟩ | ⟨b1, b2⟩
    · rw [if_neg (by rw [b1]; simp)]
      by_cases c : tn ≤ (pO B tn p A kd).2.1
      · rw [if_pos c, rbL_end (by omega) rfl (fun q => by omega)]
        exact Or.inl ⟨rfl, b2, by show (pO B tn p A kd).2.1 = tn; omega⟩
      · rw [if_neg c]
        have hs : (roR B tn p 99 O o).2.1 = 99 ∧ (roR B tn p 99 O o).1 < tn := ⟨b2, by omega⟩
        have hl : pS B tn (pO B tn p A kd).2.1 (nI 59) = decide (ltr B tn (roR B tn p 99 O o).1 = nI 59) := by rw [pS_ltr (by omega), b3]
        rw [hl]
        by_cases c2 : ltr B tn (roR B tn p 99 O o).1 = nI 59
        · rw [if_neg (by rw [decide_eq_true c2]; simp), rbL_on (by omega) rfl hs c2, b3]
          have hg2 := hg b2
          exact rd_eq h ht fc fr (o + 1) _ _ _ _ (by omega) (by omega) (by omega)
        · rw [if_pos (decide_eq_false c2), rbL_bad (by omega) rfl hs c2]
          exact Or.inr ⟨rfl, b3, a0⟩
    · rw [if_pos b1, rbL_end (by omega) rfl (fun q => by omega)]
      exact Or.inr ⟨b1, b2, a0⟩
/-- where reading a text stops -/
theorem fe_eq {B B2 : Nat → Int32} {tn : Nat} {A O : Nat → Int32} {kd : Int32} (h : gB B tn) (ht : tn ≤ 60) : nI (pW B tn 60 0 A kd).2.1 = (if ow (rbR B tn O).2.2.1 = -1 then nI tn else ow (rbR B tn O).2.2.1) ∧ ((pW B tn 60 0 A kd).1 = true ↔ (rbR B tn O).2.2.1 = 99) := by
  unfold rbR
  rcases rd_eq h ht 60 22 0 0 A kd O (Nat.zero_le _) (by omega) (by omega) with ⟨h1, h2, h3⟩ | ⟨h1, h2, h3⟩
  · rw [h2, ow_99, if_pos rfl, h3]; exact ⟨rfl, fun _ => rfl, fun _ => h1⟩
  · have hne : (rbL B tn 22 0 0 O).2.2.1 ≠ 99 := by omega
    rw [ow_n hne, if_neg (nI_nm1 (by omega)), h2]
    exact ⟨rfl, fun q => (by rw [h1] at q; exact absurd q Bool.false_ne_true), fun q => by omega⟩
/-- what is read hangs on the characters of the text alone -/
theorem ltr_c {B B2 : Nat → Int32} {tn p : Nat} (h : ∀ j, j < tn → B j = B2 j) : ltr B tn p = ltr B2 tn p := by
  unfold ltr
  by_cases c : p < tn
  · rw [if_pos c, if_pos c, h p c]
  · rw [if_neg c, if_neg c]
