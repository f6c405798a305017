/-! THE REFERENCE: a plan carried out -/
theorem n_mul (a b : Nat) : nI a * nI b = nI (a * b) := (Int32.ofNat_mul a b).symm
theorem n_le {a b : Nat} (ha : a < 2147483648) (hb : b < 2147483648) : nI a ≤ nI b ↔ a ≤ b := by
  rw [Int32.le_iff_toInt_le, nI_toInt ha, nI_toInt hb]; omega
theorem n_lt {a b : Nat} (ha : a < 2147483648) (hb : b < 2147483648) : nI a < nI b ↔ a < b := by
  rw [Int32.lt_iff_toInt_lt, nI_toInt ha, nI_toInt hb]; omega
theorem inB_of {a lo hi : Nat} (ha : a < 2147483648) (hlo : lo < 2147483648) (hhi : hi < 2147483648) (h1 : lo ≤ a) (h2 : a ≤ hi) : inB (nI a) (nI lo) (nI hi) = true := by
  unfold inB
  rw [Bool.and_eq_true, decide_eq_true_eq, decide_eq_true_eq, n_le hlo ha, n_le ha hhi]
  exact ⟨h1, h2⟩
theorem nuC_in {B : Nat → Int32} {tn p : Nat} {v : Int32} {lo hi : Nat} (hlo : lo ≤ 9) (h9 : 9 ≤ hi) (hhi : hi ≤ 500) (hv : inB v (nI lo) (nI hi) = true) (h : nuC B tn v p (nI hi) = true) : inB (nI 10 * v + nuD B tn p) (nI lo) (nI hi) = true := by
  unfold nuC at h
  simp only [Bool.and_eq_true, decide_eq_true_eq] at h
  obtain ⟨⟨h1, h2⟩, h3⟩ := h
  have q1 := inB_n (by omega) (by omega) hv
  have q2 := inB_n (by omega) (by omega) h2
  rw [q1.1] at h1 h3 ⊢
  rw [q2.1] at h3 ⊢
  have h1' : nI 0 < nI (iN v) := h1
  rw [n_lt (by omega) (by omega)] at h1'
  rw [n_mul, nI_add] at h3 ⊢
  rw [n_le (by omega) (by omega)] at h3
  exact inB_of (by omega) (by omega) (by omega) (by omega) h3
theorem nuL_in {B : Nat → Int32} {tn : Nat} {lo hi : Nat} (hlo : lo ≤ 9) (h9 : 9 ≤ hi) (hhi : hi ≤ 500) : ∀ f v p, inB v (nI lo) (nI hi) = true → inB (nuL B tn (nI hi) f v p).1 (nI lo) (nI hi) = true
  | 0, _, _, h => h
  | f + 1, v, p, h => by
    unfold nuL
    by_cases c : nuC B tn v p (nI hi) = true
    · rw [if_pos c]; exact nuL_in hlo h9 hhi f _ _ (nuC_in hlo h9 hhi h c)
    · rw [if_neg c]; exact h
theorem inB_le {v : Int32} {lo hi hi' : Nat} (h1 : hi ≤ hi') (h2 : hi' < 2147483648) (hlo : lo < 2147483648) (h : inB v (nI lo) (nI hi) = true) : inB v (nI lo) (nI hi') = true := by
  have q := inB_n hlo (by omega) h
  rw [q.1]
  exact inB_of (by omega) hlo h2 q.2.1 (by omega)
theorem nuR_in {B : Nat → Int32} {tn p w lo hi : Nat} (hlo : lo ≤ 9) (h9 : 9 ≤ hi) (hhi : hi ≤ 500) (ht : tn ≤ 60) (hp : pI tn p w) (h : (nuR B tn p w (nI lo) (nI hi)).2.2 = 99) : inB (nuR B tn p w (nI lo) (nI hi)).1 (nI lo) (nI hi) = true := by
  have h0 := hp.1
  unfold nuR at h ⊢
  by_cases e : wnW p w (inB (nuD B tn p) (nI lo) (nI 9)) = 99
  · rw [if_pos e]
    obtain ⟨-, h2, -⟩ := wn_go hp.2.2 (by omega) e
    exact nuL_in hlo h9 hhi 62 _ _ (inB_le h9 (by omega) (by omega) h2)
  · rw [if_neg e] at h; exact absurd h e
theorem nsR_ok {B : Nat → Int32} {tn p w : Nat} {O : Nat → Int32} {lo hi : Nat} {sg : Int32} {i : Nat} (hlo : lo ≤ 9) (h9 : 9 ≤ hi) (hhi : hi ≤ 500) (ht : tn ≤ 60) (hp : pI tn p w) (hl : (0 : Int32) ≤ nI lo) (h : (nsR B tn p w O (nI lo) (nI hi) i sg).2.1 = 99) : w = 99 ∧ inB (nuR B tn p w (nI lo) (nI hi)).1 (nI lo) (nI hi) = true := by
  have h1 := nuR_pI (B := B) (hi := nI hi) ht hl hp
  obtain ⟨h2, -, h3⟩ := wn_go h1.2.2 (by have := h1.1; omega) h
  exact ⟨(nuR_go ht hp hl h2).1, nuR_in hlo h9 hhi ht hp h2⟩
/-- an order that was read well -/
def okO (O : Nat → Int32) (o : Nat) : Prop :=
  (O (5 * o) = nI 115 ∧ inB (O (5 * o + 1)) (nI 1) (nI 500) = true ∧ inB (O (5 * o + 2)) (nI 0) (nI 23) = true ∧ inB (O (5 * o + 3)) (nI 0) (nI 23) = true ∧ inB (O (5 * o + 4)) (nI 1) (nI 9) = true)
  ∨ (O (5 * o) = nI 112 ∧ inB (O (5 * o + 1)) (nI 0) (nI 9) = true ∧ inB (O (5 * o + 2)) (nI 0) (nI 11) = true)
  ∨ (O (5 * o) = nI 104 ∧ inB (O (5 * o + 1)) (nI 1) (nI 48) = true)
theorem okO_c {O O' : Nat → Int32} {o : Nat} (h : ∀ j, j < 5 * o + 5 → O' j = O j) (hk : okO O o) : okO O' o := by
  unfold okO at hk ⊢
  rw [h _ (by omega), h _ (by omega), h _ (by omega), h _ (by omega), h _ (by omega)]
  exact hk
theorem rsR_ok {B : Nat → Int32} {tn p w : Nat} {O : Nat → Int32} {o : Nat} (ht : tn ≤ 60) (hp : pI tn p w) (h0 : O (5 * o) = nI 115) (h : (rsR B tn p w O (5 * o)).2.1 = 99) : w = 99 ∧ okO (rsR B tn p w O (5 * o)).2.2 o ∧ ∀ j, j < 5 * o → (rsR B tn p w O (5 * o)).2.2 j = O j := by
  have q1 : pI tn (rs1 B tn p w O (5 * o)).1 (rs1 B tn p w O (5 * o)).2.1 := by unfold rs1; exact nsR_pI ht (by decide) (by decide) hp
  have q2 : pI tn (rs2 B tn p w O (5 * o)).1 (rs2 B tn p w O (5 * o)).2.1 := by unfold rs2; exact nsR_pI ht (by decide) (by decide) q1
  have q3 : pI tn (rs3 B tn p w O (5 * o)).1 (rs3 B tn p w O (5 * o)).2.1 := by unfold rs3; exact nsR_pI ht (by decide) (by decide) q2
  have h' : (nuR B tn (rs3 B tn p w O (5 * o)).1 (rs3 B tn p w O (5 * o)).2.1 (nI 1) (nI 9)).2.2 = 99 := h
  have a4 := nuR_in (by omega) (by omega) (by omega) ht q3 h'
  have w3 := (nuR_go ht q3 (by decide) h').1
  have a3 := nsR_ok (lo := 0) (hi := 23) (i := 5 * o + 3) (sg := nI 42) (O := (rs2 B tn p w O (5 * o)).2.2) (by omega) (by omega) (by omega) ht q2 (by decide) w3
  have a2 := nsR_ok (lo := 0) (hi := 23) (i := 5 * o + 2) (sg := nI 45) (O := (rs1 B tn p w O (5 * o)).2.2) (by omega) (by omega) (by omega) ht q1 (by decide) a3.1
  have a1 := nsR_ok (lo := 1) (hi := 500) (i := 5 * o + 1) (sg := nI 64) (O := O) (by omega) (by omega) (by omega) ht hp (by decide) a2.1
  have hO : (rsR B tn p w O (5 * o)).2.2 = upd (upd (upd (upd O (5 * o + 1) (nuR B tn p w (nI 1) (nI 500)).1) (5 * o + 2) (nuR B tn (rs1 B tn p w O (5 * o)).1 (rs1 B tn p w O (5 * o)).2.1 (nI 0) (nI 23)).1) (5 * o + 3) (nuR B tn (rs2 B tn p w O (5 * o)).1 (rs2 B tn p w O (5 * o)).2.1 (nI 0) (nI 23)).1) (5 * o + 4) (nuR B tn (rs3 B tn p w O (5 * o)).1 (rs3 B tn p w O (5 * o)).2.1 (nI 1) (nI 9)).1 := rfl
  refine ⟨a1.1, Or.inl ⟨?_, ?_, ?_, ?_, ?_⟩, fun j hj => ?_⟩
  · rw [hO, upd_n (by omega), upd_n (by omega), upd_n (by omega), upd_n (by omega)]; exact h0
  · rw [hO, upd_n (by omega), upd_n (by omega), upd_n (by omega), upd_s]; exact a1.2
  · rw [hO, upd_n (by omega), upd_n (by omega), upd_s]; exact a2.2
  · rw [hO, upd_n (by omega), upd_s]; exact a3.2
  · rw [hO, upd_s]; exact a4
  · rw [hO, upd_n (by omega), upd_n (by omega), upd_n (by omega), upd_n (by omega)]
theorem rqR_ok {B : Nat → Int32} {tn p w : Nat} {O : Nat → Int32} {o : Nat} (ht : tn ≤ 60) (hp : pI tn p w) (h0 : O (5 * o) = nI 112) (h : (rqR B tn p w O (5 * o)).2.1 = 99) : w = 99 ∧ okO (rqR B tn p w O (5 * o)).2.2 o ∧ ∀ j, j < 5 * o → (rqR B tn p w O (5 * o)).2.2 j = O j := by
  have q1 : pI tn (rq1 B tn p w O (5 * o)).1 (rq1 B tn p w O (5 * o)).2.1 := by unfold rq1; exact nsR_pI ht (by decide) (by decide) hp
  have h' : (nuR B tn (rq1 B tn p w O (5 * o)).1 (rq1 B tn p w O (5 * o)).2.1 (nI 0) (nI 11)).2.2 = 99 := h
  have a2 := nuR_in (by omega) (by omega) (by omega) ht q1 h'
  have w1 := (nuR_go ht q1 (by decide) h').1
  have a1 := nsR_ok (lo := 0) (hi := 9) (i := 5 * o + 1) (sg := nI 61) (O := O) (by omega) (by omega) (by omega) ht hp (by decide) w1
  have hO : (rqR B tn p w O (5 * o)).2.2 = upd (upd O (5 * o + 1) (nuR B tn p w (nI 0) (nI 9)).1) (5 * o + 2) (nuR B tn (rq1 B tn p w O (5 * o)).1 (rq1 B tn p w O (5 * o)).2.1 (nI 0) (nI 11)).1 := rfl
  refine ⟨a1.1, Or.inr (Or.inl ⟨?_, ?_, ?_⟩), fun j hj => ?_⟩
  · rw [hO, upd_n (by omega), upd_n (by omega)]; exact h0
  · rw [hO, upd_n (by omega), upd_s]; exact a1.2
  · rw [hO, upd_s]; exact a2
  · rw [hO, upd_n (by omega), upd_n (by omega)]
theorem roR_ok {B : Nat → Int32} {tn p w : Nat} {O : Nat → Int32} {o : Nat} (ht : tn ≤ 60) (hp : pI tn p w) (h : (roR B tn p w O o).2.1 = 99) : okO (roR B tn p w O o).2.2 o ∧ ∀ j, j < 5 * o → (roR B tn p w O o).2.2 j = O j := by
  have h0 := hp.1
  have h1 := wn_pI (b := kdB (ltr B tn p)) ht hp (fun q _ => kdB_lt q)
  unfold roR at h ⊢
  split
  · rename_i c; rw [if_pos c] at h
    obtain ⟨-, q1, q2⟩ := rsR_ok ht h1 (by rw [upd_s]; exact c) h
    exact ⟨q1, fun j hj => (q2 j hj).trans (upd_n (by omega))⟩
  · rename_i c; rw [if_neg c] at h
    split
    · rename_i c1; rw [if_pos c1] at h
      obtain ⟨-, q1, q2⟩ := rqR_ok ht h1 (by rw [upd_s]; exact c1) h
      exact ⟨q1, fun j hj => (q2 j hj).trans (upd_n (by omega))⟩
    · rename_i c1; rw [if_neg c1] at h
      have h' : (nuR B tn (wnP p w) (wnW p w (kdB (ltr B tn p))) (nI 1) (nI 48)).2.2 = 99 := h
      have a1 := nuR_in (by omega) (by omega) (by omega) ht h1 h'
      have w1 := (nuR_go ht h1 (by decide) h').1
      obtain ⟨-, h2, -⟩ := wn_go hp.2.2 (by omega) w1
      have hk : ltr B tn p = nI 104 := by
        unfold kdB at h2
        simp only [Bool.or_eq_true, decide_eq_true_eq] at h2
        rcases h2 with h2 | h2 | h2
        · exact absurd h2 c
        · exact absurd h2 c1
        · exact h2
      refine ⟨Or.inr (Or.inr ⟨?_, ?_⟩), fun j hj => ?_⟩
      · show upd (upd O (5 * o) _) (5 * o + 1) _ (5 * o) = _
        rw [upd_n (by omega), upd_s]; exact hk
      · show inB (upd (upd O (5 * o) _) (5 * o + 1) _ (5 * o + 1)) _ _ = _
        rw [upd_s]; exact a1
      · show upd (upd O (5 * o) _) (5 * o + 1) _ j = _
        rw [upd_n (by omega), upd_n (by omega)]
theorem rbL_many {B : Nat → Int32} {tn : Nat} : ∀ f o p O, (rbL B tn f o p O).1 ≤ o + f
  | 0, o, p, O => Nat.le_refl _
  | f + 1, o, p, O => by
    unfold rbL
    split
    · split
      · have := rbL_many (B := B) (tn := tn) f (o + 1) ((roR B tn p 99 O o).1 + 1) (roR B tn p 99 O o).2.2
        omega
      · show o + 1 ≤ _; omega
    · show o + 1 ≤ _; omega
theorem rbL_ok {B : Nat → Int32} {tn : Nat} (ht : tn ≤ 60) : ∀ f o p O, pI tn p 99 → (∀ i, i < o → okO O i) → (rbL B tn f o p O).2.2.1 = 99 → ∀ i, i < (rbL B tn f o p O).1 → okO (rbL B tn f o p O).2.2.2 i
  | 0, o, p, O, _, h, _, i, hi => h i hi
  | f + 1, o, p, O, hp, h, hr, i, hi => by
    have hpi := roR_pI (B := B) (O := O) (o := o) ht hp
    unfold rbL at hr hi ⊢
    have fin : ∀ (e : (roR B tn p 99 O o).2.1 = 99) i, i < o + 1 → okO (roR B tn p 99 O o).2.2 i := by
      intro e i hi
      obtain ⟨q1, q2⟩ := roR_ok ht hp e
      by_cases e2 : i = o
      · rw [e2]; exact q1
      · exact okO_c (fun j hj => q2 j (by omega)) (h i (by omega))
    split at hr
    · rename_i c
      rw [if_pos c] at hi ⊢
      split at hr
      · rename_i c2
        rw [if_pos c2] at hi ⊢
        exact rbL_ok ht f _ _ _ ⟨by have := c.2; omega, fun _ => by have := c.2; omega, Nat.le_refl _⟩ (fin c.1) hr i hi
      · rename_i c2
        have hr' : (roR B tn p 99 O o).1 = 99 := hr
        have := c.2
        omega
    · rename_i c
      rw [if_neg c] at hi ⊢
      exact fin hr i hi
theorem rbR_ok {B : Nat → Int32} {tn : Nat} {O : Nat → Int32} (ht : tn ≤ 60) (h : (rbR B tn O).2.2.1 = 99) : ∀ i, i < (rbR B tn O).1 → okO (rbR B tn O).2.2.2 i :=
  rbL_ok ht 22 0 0 O ⟨by omega, fun _ => by omega, Nat.le_refl _⟩ (fun i hi => absurd hi (Nat.not_lt_zero _)) h
theorem rbR_many {B : Nat → Int32} {tn : Nat} {O : Nat → Int32} : (rbR B tn O).1 ≤ 22 := by have := rbL_many (B := B) (tn := tn) 22 0 0 O; unfold rbR; omega
theorem rbL_w {B : Nat → Int32} {tn : Nat} (ht : tn ≤ 60) : ∀ f o p O, pI tn p 99 → (rbL B tn f o p O).2.2.1 ≤ 99
  | 0, o, p, O, _ => Nat.le_refl 99
  | f + 1, o, p, O, hp => by
    have hpi := roR_pI (B := B) (O := O) (o := o) ht hp
    unfold rbL
    split
    · rename_i c
      split
      · exact rbL_w ht f _ _ _ ⟨by have := c.2; omega, fun _ => by have := c.2; omega, Nat.le_refl _⟩
      · show (roR B tn p 99 O o).1 ≤ 99; have := c.2; omega
    · exact hpi.2.2
theorem rbR_w {B : Nat → Int32} {tn : Nat} {O : Nat → Int32} (ht : tn ≤ 60) : (rbR B tn O).2.2.1 ≤ 99 := rbL_w ht 22 0 0 O ⟨by omega, fun _ => by omega, Nat.le_refl _⟩
/-- does an order do, and what it makes of the row -/
def dsB (Z : Nat → Int32) (n : Nat) (O : Nat → Int32) (to : Nat) : Bool := if O to = nI 115 then decide (n < 10) else if O to = nI 112 then decide (wnp Z n (O (to + 1)) (O (to + 2)) = 0) else decide (Z 3 + O (to + 1) ≤ nI 9999)
def dsZ (Z : Nat → Int32) (n : Nat) (O : Nat → Int32) (to : Nat) : Nat → Int32 := if dsB Z n O to = false then Z else if O to = nI 115 then comeZ Z n (O (to + 1)) (O (to + 2)) (O (to + 3)) (O (to + 4)) else if O to = nI 112 then upd Z (39 + 8 * iN (O (to + 1)) + 4) (O (to + 2)) else hsZ Z n (iN (O (to + 1)))
def dsN (n : Nat) (O : Nat → Int32) (to : Nat) : Nat := if O to = nI 115 then n + 1 else n
theorem comeZ_zW {Z : Nat → Int32} {n : Nat} {a0 a1 a2 a3 : Int32} (h : zW Z n) (hn : n < 10) : zW (comeZ Z n a0 a1 a2 a3) (n + 1) := by
  unfold comeZ
  refine ⟨by omega, upd_s, fun k hk => ?_, fun b hb => ?_⟩
  · by_cases e : k = n
    · subst e
      left
      rw [upd_n (by omega), upd_n (by omega), upd_n (by omega), upd_n (by omega), upd_s]
    · rw [upd_n (by omega), upd_n (by omega), upd_n (by omega), upd_n (by omega), upd_n (by omega), upd_n (by omega), upd_n (by omega), upd_n (by omega), upd_n (by omega)]
      exact h.2.2.1 k (by omega)
  · rw [upd_n (by omega), upd_n (by omega), upd_n (by omega), upd_n (by omega), upd_n (by omega), upd_n (by omega), upd_n (by omega), upd_n (by omega), upd_n (by omega)]
    exact h.2.2.2 b hb
theorem plg_zW {Z : Nat → Int32} {n : Nat} {a b : Int32} (h : zW Z n) (hp : wnp Z n a b = 0) : zW (upd Z (39 + 8 * iN a + 4) b) n := by
  have q := wnp_0 hp
  have q1 := stB_n h q.1
  have q2 := inB_n (lo := 0) (hi := 11) (by decide) (by decide) q.2.1
  have q3 := wpY_zW (q := iN b) h q1.2 (by omega)
  unfold wpY at q3
  rw [← q2.1] at q3
  exact q3
theorem dsZ_f {Z : Nat → Int32} {n : Nat} {O : Nat → Int32} {to : Nat} (h : dsB Z n O to = false) : dsZ Z n O to = Z := if_pos h
theorem dsZ_zW {Z : Nat → Int32} {n : Nat} {O : Nat → Int32} {to : Nat} (h : zW Z n) (hd : dsB Z n O to = true) : zW (dsZ Z n O to) (dsN n O to) := by
  unfold dsZ dsN
  rw [if_neg (by rw [hd]; simp)]
  unfold dsB at hd
  split
  · rename_i c; rw [if_pos c] at hd
    exact comeZ_zW h (of_decide_eq_true hd)
  · rename_i c; rw [if_neg c] at hd
    split
    · rename_i c1; rw [if_pos c1] at hd
      exact plg_zW h (of_decide_eq_true hd)
    · exact hsZ_zW h _
/-- the orders done one by one, from order i on -/
def opL (O : Nat → Int32) (many : Nat) : Nat → Nat → (Nat → Int32) → Nat → Nat × (Nat → Int32) × Nat
  | 0, i, X, m => (i, X, m)
  | f + 1, i, X, m => if i < many ∧ dsB X m O (5 * i) = true then opL O many f (i + 1) (dsZ X m O (5 * i)) (dsN m O (5 * i)) else (i, X, m)
theorem opL_no {O : Nat → Int32} {many f i m : Nat} {X : Nat → Int32} (h : ¬ (i < many ∧ dsB X m O (5 * i) = true)) : opL O many f i X m = (i, X, m) := by
  cases f
  · rfl
  · rw [opL, if_neg h]
theorem opL_go {O : Nat → Int32} {many f i m : Nat} {X : Nat → Int32} (hf : 1 ≤ f) (h : i < many ∧ dsB X m O (5 * i) = true) : opL O many f i X m = opL O many (f - 1) (i + 1) (dsZ X m O (5 * i)) (dsN m O (5 * i)) := by
  cases f
  · omega
  · rw [opL, if_pos h]; rfl
def tOpen (F : Nat → Nat → Int32) (tn : Nat) : Nat := if (rbR (F 6) tn (F 7)).2.2.1 = 99 then 0 else 1
def opR (F : Nat → Nat → Int32) (tn : Nat) (Z : Nat → Int32) (n : Nat) : Nat × (Nat → Int32) × Nat := opL (rbR (F 6) tn (F 7)).2.2.2 (rbR (F 6) tn (F 7)).1 22 0 Z n
theorem okO_h {O : Nat → Int32} {o : Nat} (h : okO O o) : ¬ O (5 * o) = nI 115 → ¬ O (5 * o) = nI 112 → inB (O (5 * o + 1)) (nI 1) (nI 48) = true := by
  intro h1 h2
  rcases h with h | h | h
  · exact absurd h.1 h1
  · exact absurd h.1 h2
  · exact h.2
set_option maxRecDepth 100000 in
set_option maxHeartbeats 4000000 in
theorem m6_does (l : Launch) (D : va_G) (ct : Nat → ClassId) (ad : Nat → Nat) (Z g : Nat → Int32) (hs : Int64) (F : Nat → Nat → Int32) (to : Nat) (n : Nat)  (hw : zW Z n) (hto : to + 4 < 110) (ho : ¬ F 7 to = nI 115 → ¬ F 7 to = nI 112 → inB (F 7 (to + 1)) (nI 1) (nI 48) = true) : FMet l yX6_does cX6_does 6 (some .boolean) 7 158 D ct 8 ad [.ref (ad 0), .int (nI to)] (mdc ct ad Z g hs F) (some (.int (bi (dsB Z n (F 7) to)))) (mdc ct ad (dsZ Z n (F 7) to) g hs F) := by
  refine FMet.of (by decide +kernel) (Nat.le_of_ble_eq_true rfl) ?_
  intro p e s m args below meth c ls hx hb hr hml hown hlocks htg hK hI hP hS hl
  have hl : lv_has ls 6 [(0, .ref (ad 0)), (1, .int (nI to))] := hl
  have hn10 := hw.1
  refine lv_aload_n hx hb dX6_does_0 rfl (lv_at hl 0 rfl) ?_
  refine md_g9 hx hb hown htg hK hP dX6_does_1 ?_
  refine lv_iload_n hx hb dX6_does_4 rfl (lv_at hl 1 rfl) ?_
  refine md_l7 hx hb hK hP (by omega) dX6_does_5 ?_
  refine lv_istore_n (lv' := [(2, .int ((F 7) to)), (0, .ref (ad 0)), (1, .int (nI to))]) hx hb dX6_does_6 rfl hl (by decide) rfl (fun ls hl => ?_)
  refine lv_aload_n hx hb dX6_does_7 rfl (lv_at hl 1 rfl) ?_
  refine md_g9 hx hb hown htg hK hP dX6_does_8 ?_
  refine lv_iload_n hx hb dX6_does_11 rfl (lv_at hl 2 rfl) ?_
  refine lv_iconst (v := nI 1) hx hb dX6_does_12 (by decide) ?_
  refine lv_iaddN hx hb dX6_does_13 ?_
  refine md_l7 hx hb hK hP (by omega) dX6_does_14 ?_
  refine lv_istore_n (lv' := [(3, .int ((F 7) (to + 1))), (2, .int ((F 7) to)), (0, .ref (ad 0)), (1, .int (nI to))]) hx hb dX6_does_15 rfl hl (by decide) rfl (fun ls hl => ?_)
  refine lv_aload_n hx hb dX6_does_16 rfl (lv_at hl 2 rfl) ?_
  refine md_g9 hx hb hown htg hK hP dX6_does_17 ?_
  refine lv_iload_n hx hb dX6_does_20 rfl (lv_at hl 3 rfl) ?_
  refine lv_iconst (v := nI 2) hx hb dX6_does_21 (by decide) ?_
  refine lv_iaddN hx hb dX6_does_22 ?_
  refine md_l7 hx hb hK hP (by omega) dX6_does_23 ?_
  refine lv_istore (lv' := [(4, .int ((F 7) (to + 2))), (3, .int ((F 7) (to + 1))), (2, .int ((F 7) to)), (0, .ref (ad 0)), (1, .int (nI to))]) hx hb dX6_does_24 hl (by decide) rfl (fun ls hl => ?_)
  refine lv_iload_n hx hb dX6_does_26 rfl (lv_at hl 2 rfl) ?_
  refine lv_bipush (v := nI 115) hx hb dX6_does_27 (by decide) ?_
  refine lv_icmp_ne (tgt := 51) hx hb dX6_does_29 (by decide) (fun c29 => ?_) (fun c29 => ?_)
  · refine lv_iload_n hx hb dX6_does_51 rfl (lv_at hl 2 rfl) ?_
    refine lv_bipush (v := nI 112) hx hb dX6_does_52 (by decide) ?_
    refine lv_icmp_ne (tgt := 75) hx hb dX6_does_54 (by decide) (fun c54 => ?_) (fun c54 => ?_)
    · refine lv_aload_n hx hb dX6_does_75 rfl (lv_at hl 3 rfl) ?_
      refine md_g1 hx hb hown htg hK hP dX6_does_76 ?_
      refine lv_iconst (v := nI 3) hx hb dX6_does_79 (by decide) ?_
      refine md_l1 hx hb hK hP (by omega) dX6_does_80 ?_
      refine lv_iload_n hx hb dX6_does_81 rfl (lv_at hl 1 rfl) ?_
      refine lv_iadd hx hb dX6_does_82 ?_
      refine lv_sipush (v := nI 9999) hx hb dX6_does_83 (by decide) ?_
      refine lv_icmp_gtR (tgt := 93) hx hb dX6_does_86 (by decide) (fun c86 => ?_) (fun c86 => ?_)
      · refine lv_iconst (v := nI 0) hx hb dX6_does_93 (by decide) ?_
        refine lv_istore (lv' := [(5, .int (nI 0)), (4, .int ((F 7) (to + 2))), (3, .int ((F 7) (to + 1))), (2, .int ((F 7) to)), (0, .ref (ad 0)), (1, .int (nI to))]) hx hb dX6_does_94 hl (by decide) rfl (fun ls hl => ?_)
        refine lv_iload hx hb dX6_does_96 (lv_at hl 0 rfl) ?_
        refine lv_if_eq (tgt := 134) hx hb dX6_does_98 (by decide) (fun _ => ?_) (fun h => absurd (by decide) h)
        refine lv_iload hx hb dX6_does_134 (lv_at hl 0 rfl) ?_
        refine lv_if_eq (tgt := 156) hx hb dX6_does_136 (by decide) (fun _ => ?_) (fun h => absurd (by decide) h)
        refine lv_iload hx hb dX6_does_156 (lv_at hl 0 rfl) ?_
        refine lv_if_eq (tgt := 167) hx hb dX6_does_158 (by decide) (fun _ => ?_) (fun h => absurd (by decide) h)
        refine lv_iload hx hb dX6_does_167 (lv_at hl 0 rfl) ?_
        refine fr_iret hx hb hr hlocks hK hI hS rfl dX6_does_169 ?_ ?_
        · exact (congrArg bi (show (dsB Z n (F 7) to) = false from by first | (exfalso; omega) | (simp only [dsB, c29, c54, c86, Int32.not_le.mpr c86, decide_true, decide_false, Bool.and_true, Bool.true_and, Bool.and_false, Bool.false_and, Bool.or_true, Bool.true_or, Bool.or_false, Bool.false_or, Bool.and_self, Bool.or_self, if_true, if_false, eq_self, Bool.false_eq_true, Bool.true_eq_false, reduceCtorEq, not_true_eq_false, not_false_eq_true, and_true, true_and, and_false, false_and, or_true, true_or, or_false, false_or, and_self, or_self, Int32.add_zero]; done) | (simp only [dsB, c29, c54, c86, Int32.not_le.mpr c86, decide_true, decide_false, Bool.and_true, Bool.true_and, Bool.and_false, Bool.false_and, Bool.or_true, Bool.true_or, Bool.or_false, Bool.false_or, Bool.and_self, Bool.or_self, if_true, if_false, eq_self, Bool.false_eq_true, Bool.true_eq_false, reduceCtorEq, not_true_eq_false, not_false_eq_true, and_true, true_and, and_false, false_and, or_true, true_or, or_false, false_or, and_self, or_self, Int32.add_zero]; rfl))).symm
        · refine fP.eqc (congrArg (fun v9 => mdc ct ad v9 g hs F) (show (dsZ Z n (F 7) to) = Z from by first | (exfalso; omega) | (simp only [dsZ, dsB, c29, c54, c86, Int32.not_le.mpr c86, decide_true, decide_false, Bool.and_true, Bool.true_and, Bool.and_false, Bool.false_and, Bool.or_true, Bool.true_or, Bool.or_false, Bool.false_or, Bool.and_self, Bool.or_self, if_true, if_false, eq_self, Bool.false_eq_true, Bool.true_eq_false, reduceCtorEq, not_true_eq_false, not_false_eq_true, and_true, true_and, and_false, false_and, or_true, true_or, or_false, false_or, and_self, or_self, Int32.add_zero]; done) | (simp only [dsZ, dsB, c29, c54, c86, Int32.not_le.mpr c86, decide_true, decide_false, Bool.and_true, Bool.true_and, Bool.and_false, Bool.false_and, Bool.or_true, Bool.true_or, Bool.or_false, Bool.false_or, Bool.and_self, Bool.or_self, if_true, if_false, eq_self, Bool.false_eq_true, Bool.true_eq_false, reduceCtorEq, not_true_eq_false, not_false_eq_true, and_true, true_and, and_false, false_and, or_true, true_or, or_false, false_or, and_self, or_self, Int32.add_zero]; rfl)).symm) ?_
          exact hP
      · refine lv_iconst (v := nI 1) hx hb dX6_does_89 (by decide) ?_
        refine lv_goto (tgt := 94) hx hb dX6_does_90 (by decide) ?_
        refine lv_istore (lv' := [(5, .int (nI 1)), (4, .int ((F 7) (to + 2))), (3, .int ((F 7) (to + 1))), (2, .int ((F 7) to)), (0, .ref (ad 0)), (1, .int (nI to))]) hx hb dX6_does_94 hl (by decide) rfl (fun ls hl => ?_)
        refine lv_iload hx hb dX6_does_96 (lv_at hl 0 rfl) ?_
        refine lv_if_eq (tgt := 134) hx hb dX6_does_98 (by decide) (fun h => absurd h (by decide)) (fun _ => ?_)
        refine lv_iload_n hx hb dX6_does_101 rfl (lv_at hl 3 rfl) ?_
        refine lv_bipush (v := nI 115) hx hb dX6_does_102 (by decide) ?_
        refine lv_icmp_ne (tgt := 134) hx hb dX6_does_104 (by decide) (fun _ => ?_) (fun h => absurd h c29)
        refine lv_iload hx hb dX6_does_134 (lv_at hl 0 rfl) ?_
        refine lv_if_eq (tgt := 156) hx hb dX6_does_136 (by decide) (fun h => absurd h (by decide)) (fun _ => ?_)
        refine lv_iload_n hx hb dX6_does_139 rfl (lv_at hl 3 rfl) ?_
        refine lv_bipush (v := nI 112) hx hb dX6_does_140 (by decide) ?_
        refine lv_icmp_ne (tgt := 156) hx hb dX6_does_142 (by decide) (fun _ => ?_) (fun h => absurd h c54)
        refine lv_iload hx hb dX6_does_156 (lv_at hl 0 rfl) ?_
        refine lv_if_eq (tgt := 167) hx hb dX6_does_158 (by decide) (fun h => absurd h (by decide)) (fun _ => ?_)
        have hnv := inB_n (lo := 1) (hi := 48) (by decide) (by decide) (ho c29 c54)
        have hlv := hnv.2.1
        have huv := hnv.2.2
        refine lv_aload_n hx hb dX6_does_161 rfl (lv_at hl 4 rfl) ?_
        refine lv_iload_n hx hb dX6_does_162 rfl (lv_at hl 2 rfl) ?_
        refine lv_teq hnv.1 ?_
        refine md_cVr (As := [.int (nI (iN ((F 7) (to + 1))))]) (rest := []) hx hb hown htg hK hI hS hP hml hl.1 (m6_hours l D ct ad _ _ _ _ (iN ((F 7) (to + 1))) n hw (by omega)) cw_X6_123 rfl rfl ⟨Nat.le_of_ble_eq_true rfl, Nat.le_of_ble_eq_true rfl⟩ (Nat.le_of_ble_eq_true rfl) dX6_does_163 ⟨Nat.le_refl _, Nat.le_refl _⟩ (fun H locs hP hS => ?_)
        refine lv_pop hx hb dX6_does_166 rfl ?_
        refine lv_iload hx hb dX6_does_167 (lv_at hl 0 rfl) ?_
        refine fr_iret hx hb hr hlocks hK hI hS rfl dX6_does_169 ?_ ?_
        · exact (congrArg bi (show (dsB Z n (F 7) to) = true from by first | (exfalso; omega) | (simp only [dsB, c29, c54, c86, Int32.not_lt.mpr c86, decide_true, decide_false, Bool.and_true, Bool.true_and, Bool.and_false, Bool.false_and, Bool.or_true, Bool.true_or, Bool.or_false, Bool.false_or, Bool.and_self, Bool.or_self, if_true, if_false, eq_self, Bool.false_eq_true, Bool.true_eq_false, reduceCtorEq, not_true_eq_false, not_false_eq_true, and_true, true_and, and_false, false_and, or_true, true_or, or_false, false_or, and_self, or_self, Int32.add_zero]; done) | (simp only [dsB, c29, c54, c86, Int32.not_lt.mpr c86, decide_true, decide_false, Bool.and_true, Bool.true_and, Bool.and_false, Bool.false_and, Bool.or_true, Bool.true_or, Bool.or_false, Bool.false_or, Bool.and_self, Bool.or_self, if_true, if_false, eq_self, Bool.false_eq_true, Bool.true_eq_false, reduceCtorEq, not_true_eq_false, not_false_eq_true, and_true, true_and, and_false, false_and, or_true, true_or, or_false, false_or, and_self, or_self, Int32.add_zero]; rfl))).symm
        · refine fP.eqc (congrArg (fun v9 => mdc ct ad v9 g hs F) (show (dsZ Z n (F 7) to) = (hsZ Z n (iN ((F 7) (to + 1)))) from by first | (exfalso; omega) | (simp only [dsZ, dsB, c29, c54, c86, Int32.not_lt.mpr c86, decide_true, decide_false, Bool.and_true, Bool.true_and, Bool.and_false, Bool.false_and, Bool.or_true, Bool.true_or, Bool.or_false, Bool.false_or, Bool.and_self, Bool.or_self, if_true, if_false, eq_self, Bool.false_eq_true, Bool.true_eq_false, reduceCtorEq, not_true_eq_false, not_false_eq_true, and_true, true_and, and_false, false_and, or_true, true_or, or_false, false_or, and_self, or_self, Int32.add_zero]; done) | (simp only [dsZ, dsB, c29, c54, c86, Int32.not_lt.mpr c86, decide_true, decide_false, Bool.and_true, Bool.true_and, Bool.and_false, Bool.false_and, Bool.or_true, Bool.true_or, Bool.or_false, Bool.false_or, Bool.and_self, Bool.or_self, if_true, if_false, eq_self, Bool.false_eq_true, Bool.true_eq_false, reduceCtorEq, not_true_eq_false, not_false_eq_true, and_true, true_and, and_false, false_and, or_true, true_or, or_false, false_or, and_self, or_self, Int32.add_zero]; rfl)).symm) ?_
          exact hP
    · refine lv_aload_n hx hb dX6_does_57 rfl (lv_at hl 3 rfl) ?_
      refine lv_iload_n hx hb dX6_does_58 rfl (lv_at hl 1 rfl) ?_
      refine lv_iload hx hb dX6_does_59 (lv_at hl 0 rfl) ?_
      refine md_cVr (As := [.int ((F 7) (to + 1)), .int ((F 7) (to + 2))]) (rest := []) hx hb hown htg hK hI hS hP hml hl.1 (m6_whyNotPlug l D ct ad _ _ _ _ ((F 7) (to + 1)) ((F 7) (to + 2)) n hw) cw_X6_111 rfl rfl ⟨Nat.le_of_ble_eq_true rfl, Nat.le_of_ble_eq_true rfl⟩ (Nat.le_of_ble_eq_true rfl) dX6_does_61 ⟨Nat.le_refl _, Nat.le_refl _⟩ (fun H locs hP hS => ?_)
      have hwl := @wnp_lt Z n ((F 7) (to + 1)) ((F 7) (to + 2))
      refine lv_ifneN (tgt := 71) hx hb (by omega) dX6_does_64 (by decide) (fun c64 => ?_) (fun c64 => ?_)
      · refine lv_iconst (v := nI 0) hx hb dX6_does_71 (by decide) ?_
        refine lv_goto (tgt := 94) hx hb dX6_does_72 (by decide) ?_
        refine lv_istore (lv' := [(5, .int (nI 0)), (4, .int ((F 7) (to + 2))), (3, .int ((F 7) (to + 1))), (2, .int ((F 7) to)), (0, .ref (ad 0)), (1, .int (nI to))]) hx hb dX6_does_94 hl (by decide) rfl (fun ls hl => ?_)
        refine lv_iload hx hb dX6_does_96 (lv_at hl 0 rfl) ?_
        refine lv_if_eq (tgt := 134) hx hb dX6_does_98 (by decide) (fun _ => ?_) (fun h => absurd (by decide) h)
        refine lv_iload hx hb dX6_does_134 (lv_at hl 0 rfl) ?_
        refine lv_if_eq (tgt := 156) hx hb dX6_does_136 (by decide) (fun _ => ?_) (fun h => absurd (by decide) h)
        refine lv_iload hx hb dX6_does_156 (lv_at hl 0 rfl) ?_
        refine lv_if_eq (tgt := 167) hx hb dX6_does_158 (by decide) (fun _ => ?_) (fun h => absurd (by decide) h)
        refine lv_iload hx hb dX6_does_167 (lv_at hl 0 rfl) ?_
        refine fr_iret hx hb hr hlocks hK hI hS rfl dX6_does_169 ?_ ?_
        · exact (congrArg bi (show (dsB Z n (F 7) to) = false from by first | (exfalso; omega) | (simp only [dsB, c29, c54, c64, decide_true, decide_false, Bool.and_true, Bool.true_and, Bool.and_false, Bool.false_and, Bool.or_true, Bool.true_or, Bool.or_false, Bool.false_or, Bool.and_self, Bool.or_self, if_true, if_false, eq_self, Bool.false_eq_true, Bool.true_eq_false, reduceCtorEq, not_true_eq_false, not_false_eq_true, and_true, true_and, and_false, false_and, or_true, true_or, or_false, false_or, and_self, or_self, Int32.add_zero]; done) | (simp only [dsB, c29, c54, c64, decide_true, decide_false, Bool.and_true, Bool.true_and, Bool.and_false, Bool.false_and, Bool.or_true, Bool.true_or, Bool.or_false, Bool.false_or, Bool.and_self, Bool.or_self, if_true, if_false, eq_self, Bool.false_eq_true, Bool.true_eq_false, reduceCtorEq, not_true_eq_false, not_false_eq_true, and_true, true_and, and_false, false_and, or_true, true_or, or_false, false_or, and_self, or_self, Int32.add_zero]; rfl))).symm
        · refine fP.eqc (congrArg (fun v9 => mdc ct ad v9 g hs F) (show (dsZ Z n (F 7) to) = Z from by first | (exfalso; omega) | (simp only [dsZ, dsB, c29, c54, c64, decide_true, decide_false, Bool.and_true, Bool.true_and, Bool.and_false, Bool.false_and, Bool.or_true, Bool.true_or, Bool.or_false, Bool.false_or, Bool.and_self, Bool.or_self, if_true, if_false, eq_self, Bool.false_eq_true, Bool.true_eq_false, reduceCtorEq, not_true_eq_false, not_false_eq_true, and_true, true_and, and_false, false_and, or_true, true_or, or_false, false_or, and_self, or_self, Int32.add_zero]; done) | (simp only [dsZ, dsB, c29, c54, c64, decide_true, decide_false, Bool.and_true, Bool.true_and, Bool.and_false, Bool.false_and, Bool.or_true, Bool.true_or, Bool.or_false, Bool.false_or, Bool.and_self, Bool.or_self, if_true, if_false, eq_self, Bool.false_eq_true, Bool.true_eq_false, reduceCtorEq, not_true_eq_false, not_false_eq_true, and_true, true_and, and_false, false_and, or_true, true_or, or_false, false_or, and_self, or_self, Int32.add_zero]; rfl)).symm) ?_
          exact hP
      · refine lv_iconst (v := nI 1) hx hb dX6_does_67 (by decide) ?_
        refine lv_goto (tgt := 94) hx hb dX6_does_68 (by decide) ?_
        refine lv_istore (lv' := [(5, .int (nI 1)), (4, .int ((F 7) (to + 2))), (3, .int ((F 7) (to + 1))), (2, .int ((F 7) to)), (0, .ref (ad 0)), (1, .int (nI to))]) hx hb dX6_does_94 hl (by decide) rfl (fun ls hl => ?_)
        refine lv_iload hx hb dX6_does_96 (lv_at hl 0 rfl) ?_
        refine lv_if_eq (tgt := 134) hx hb dX6_does_98 (by decide) (fun h => absurd h (by decide)) (fun _ => ?_)
        refine lv_iload_n hx hb dX6_does_101 rfl (lv_at hl 3 rfl) ?_
        refine lv_bipush (v := nI 115) hx hb dX6_does_102 (by decide) ?_
        refine lv_icmp_ne (tgt := 134) hx hb dX6_does_104 (by decide) (fun _ => ?_) (fun h => absurd h c29)
        refine lv_iload hx hb dX6_does_134 (lv_at hl 0 rfl) ?_
        refine lv_if_eq (tgt := 156) hx hb dX6_does_136 (by decide) (fun h => absurd h (by decide)) (fun _ => ?_)
        refine lv_iload_n hx hb dX6_does_139 rfl (lv_at hl 3 rfl) ?_
        refine lv_bipush (v := nI 112) hx hb dX6_does_140 (by decide) ?_
        refine lv_icmp_ne (tgt := 156) hx hb dX6_does_142 (by decide) (fun h => absurd c54 h) (fun _ => ?_)
        have hw0 := wnp_0 c64
        have hnk := stB_n hw hw0.1
        have huk := hnk.2
        refine lv_aload_n hx hb dX6_does_145 rfl (lv_at hl 4 rfl) ?_
        refine lv_iload_n hx hb dX6_does_146 rfl (lv_at hl 2 rfl) ?_
        refine lv_teq hnk.1 ?_
        refine lv_iconst (v := nI 4) hx hb dX6_does_147 (by decide) ?_
        refine lv_iload hx hb dX6_does_148 (lv_at hl 1 rfl) ?_
        refine md_cV0 (As := [.int (nI (iN ((F 7) (to + 1)))), .int (nI 4), .int ((F 7) (to + 2))]) (rest := []) hx hb hown htg hK hI hS hP hml hl.1 (m6_lay l D ct ad _ _ _ _ (iN ((F 7) (to + 1))) 4 ((F 7) (to + 2)) (by omega) (by omega)) cw_X6_78 rfl rfl ⟨Nat.le_of_ble_eq_true rfl, Nat.le_of_ble_eq_true rfl⟩ (Nat.le_of_ble_eq_true rfl) dX6_does_150 ⟨Nat.le_refl _, Nat.le_refl _⟩ (fun H locs hP hS => ?_)
        refine lv_goto (tgt := 167) hx hb dX6_does_153 (by decide) ?_
        refine lv_iload hx hb dX6_does_167 (lv_at hl 0 rfl) ?_
        refine fr_iret hx hb hr hlocks hK hI hS rfl dX6_does_169 ?_ ?_
        · exact (congrArg bi (show (dsB Z n (F 7) to) = true from by first | (exfalso; omega) | (simp only [dsB, c29, c54, c64, decide_true, decide_false, Bool.and_true, Bool.true_and, Bool.and_false, Bool.false_and, Bool.or_true, Bool.true_or, Bool.or_false, Bool.false_or, Bool.and_self, Bool.or_self, if_true, if_false, eq_self, Bool.false_eq_true, Bool.true_eq_false, reduceCtorEq, not_true_eq_false, not_false_eq_true, and_true, true_and, and_false, false_and, or_true, true_or, or_false, false_or, and_self, or_self, Int32.add_zero]; done) | (simp only [dsB, c29, c54, c64, decide_true, decide_false, Bool.and_true, Bool.true_and, Bool.and_false, Bool.false_and, Bool.or_true, Bool.true_or, Bool.or_false, Bool.false_or, Bool.and_self, Bool.or_self, if_true, if_false, eq_self, Bool.false_eq_true, Bool.true_eq_false, reduceCtorEq, not_true_eq_false, not_false_eq_true, and_true, true_and, and_false, false_and, or_true, true_or, or_false, false_or, and_self, or_self, Int32.add_zero]; rfl))).symm
        · refine fP.eqc (congrArg (fun v9 => mdc ct ad v9 g hs F) (show (dsZ Z n (F 7) to) = (upd Z (39 + 8 * (iN ((F 7) (to + 1))) + 4) ((F 7) (to + 2))) from by first | (exfalso; omega) | (simp only [dsZ, dsB, c29, c54, c64, decide_true, decide_false, Bool.and_true, Bool.true_and, Bool.and_false, Bool.false_and, Bool.or_true, Bool.true_or, Bool.or_false, Bool.false_or, Bool.and_self, Bool.or_self, if_true, if_false, eq_self, Bool.false_eq_true, Bool.true_eq_false, reduceCtorEq, not_true_eq_false, not_false_eq_true, and_true, true_and, and_false, false_and, or_true, true_or, or_false, false_or, and_self, or_self, Int32.add_zero]; done) | (simp only [dsZ, dsB, c29, c54, c64, decide_true, decide_false, Bool.and_true, Bool.true_and, Bool.and_false, Bool.false_and, Bool.or_true, Bool.true_or, Bool.or_false, Bool.false_or, Bool.and_self, Bool.or_self, if_true, if_false, eq_self, Bool.false_eq_true, Bool.true_eq_false, reduceCtorEq, not_true_eq_false, not_false_eq_true, and_true, true_and, and_false, false_and, or_true, true_or, or_false, false_or, and_self, or_self, Int32.add_zero]; rfl)).symm) ?_
          exact hP
  · refine lv_aload_n hx hb dX6_does_32 rfl (lv_at hl 3 rfl) ?_
    refine md_g1 hx hb hown htg hK hP dX6_does_33 ?_
    refine lv_iconst (v := nI 4) hx hb dX6_does_36 (by decide) ?_
    refine md_l1 hx hb hK hP (by omega) dX6_does_37 ?_
    refine lv_teq (hw).2.1 ?_
    refine lv_bipush (v := nI 10) hx hb dX6_does_38 (by decide) ?_
    refine lv_icmp_geN (tgt := 47) hx hb (by omega) (by omega) dX6_does_40 (by decide) (fun c40 => ?_) (fun c40 => ?_)
    · refine lv_iconst (v := nI 0) hx hb dX6_does_47 (by decide) ?_
      refine lv_goto (tgt := 94) hx hb dX6_does_48 (by decide) ?_
      refine lv_istore (lv' := [(5, .int (nI 0)), (4, .int ((F 7) (to + 2))), (3, .int ((F 7) (to + 1))), (2, .int ((F 7) to)), (0, .ref (ad 0)), (1, .int (nI to))]) hx hb dX6_does_94 hl (by decide) rfl (fun ls hl => ?_)
      refine lv_iload hx hb dX6_does_96 (lv_at hl 0 rfl) ?_
      refine lv_if_eq (tgt := 134) hx hb dX6_does_98 (by decide) (fun _ => ?_) (fun h => absurd (by decide) h)
      refine lv_iload hx hb dX6_does_134 (lv_at hl 0 rfl) ?_
      refine lv_if_eq (tgt := 156) hx hb dX6_does_136 (by decide) (fun _ => ?_) (fun h => absurd (by decide) h)
      refine lv_iload hx hb dX6_does_156 (lv_at hl 0 rfl) ?_
      refine lv_if_eq (tgt := 167) hx hb dX6_does_158 (by decide) (fun _ => ?_) (fun h => absurd (by decide) h)
      refine lv_iload hx hb dX6_does_167 (lv_at hl 0 rfl) ?_
      refine fr_iret hx hb hr hlocks hK hI hS rfl dX6_does_169 ?_ ?_
      · exact (congrArg bi (show (dsB Z n (F 7) to) = false from by first | (exfalso; omega) | (simp only [dsB, c29, c40, Nat.not_lt.mpr c40, decide_true, decide_false, Bool.and_true, Bool.true_and, Bool.and_false, Bool.false_and, Bool.or_true, Bool.true_or, Bool.or_false, Bool.false_or, Bool.and_self, Bool.or_self, if_true, if_false, eq_self, Bool.false_eq_true, Bool.true_eq_false, reduceCtorEq, not_true_eq_false, not_false_eq_true, and_true, true_and, and_false, false_and, or_true, true_or, or_false, false_or, and_self, or_self, Int32.add_zero]; done) | (simp only [dsB, c29, c40, Nat.not_lt.mpr c40, decide_true, decide_false, Bool.and_true, Bool.true_and, Bool.and_false, Bool.false_and, Bool.or_true, Bool.true_or, Bool.or_false, Bool.false_or, Bool.and_self, Bool.or_self, if_true, if_false, eq_self, Bool.false_eq_true, Bool.true_eq_false, reduceCtorEq, not_true_eq_false, not_false_eq_true, and_true, true_and, and_false, false_and, or_true, true_or, or_false, false_or, and_self, or_self, Int32.add_zero]; rfl))).symm
      · refine fP.eqc (congrArg (fun v9 => mdc ct ad v9 g hs F) (show (dsZ Z n (F 7) to) = Z from by first | (exfalso; omega) | (simp only [dsZ, dsB, c29, c40, Nat.not_lt.mpr c40, decide_true, decide_false, Bool.and_true, Bool.true_and, Bool.and_false, Bool.false_and, Bool.or_true, Bool.true_or, Bool.or_false, Bool.false_or, Bool.and_self, Bool.or_self, if_true, if_false, eq_self, Bool.false_eq_true, Bool.true_eq_false, reduceCtorEq, not_true_eq_false, not_false_eq_true, and_true, true_and, and_false, false_and, or_true, true_or, or_false, false_or, and_self, or_self, Int32.add_zero]; done) | (simp only [dsZ, dsB, c29, c40, Nat.not_lt.mpr c40, decide_true, decide_false, Bool.and_true, Bool.true_and, Bool.and_false, Bool.false_and, Bool.or_true, Bool.true_or, Bool.or_false, Bool.false_or, Bool.and_self, Bool.or_self, if_true, if_false, eq_self, Bool.false_eq_true, Bool.true_eq_false, reduceCtorEq, not_true_eq_false, not_false_eq_true, and_true, true_and, and_false, false_and, or_true, true_or, or_false, false_or, and_self, or_self, Int32.add_zero]; rfl)).symm) ?_
        exact hP
    · refine lv_iconst (v := nI 1) hx hb dX6_does_43 (by decide) ?_
      refine lv_goto (tgt := 94) hx hb dX6_does_44 (by decide) ?_
      refine lv_istore (lv' := [(5, .int (nI 1)), (4, .int ((F 7) (to + 2))), (3, .int ((F 7) (to + 1))), (2, .int ((F 7) to)), (0, .ref (ad 0)), (1, .int (nI to))]) hx hb dX6_does_94 hl (by decide) rfl (fun ls hl => ?_)
      refine lv_iload hx hb dX6_does_96 (lv_at hl 0 rfl) ?_
      refine lv_if_eq (tgt := 134) hx hb dX6_does_98 (by decide) (fun h => absurd h (by decide)) (fun _ => ?_)
      refine lv_iload_n hx hb dX6_does_101 rfl (lv_at hl 3 rfl) ?_
      refine lv_bipush (v := nI 115) hx hb dX6_does_102 (by decide) ?_
      refine lv_icmp_ne (tgt := 134) hx hb dX6_does_104 (by decide) (fun h => absurd c29 h) (fun _ => ?_)
      refine lv_aload_n hx hb dX6_does_107 rfl (lv_at hl 4 rfl) ?_
      refine lv_iload_n hx hb dX6_does_108 rfl (lv_at hl 2 rfl) ?_
      refine lv_iload hx hb dX6_does_109 (lv_at hl 1 rfl) ?_
      refine lv_aload_n hx hb dX6_does_111 rfl (lv_at hl 4 rfl) ?_
      refine md_g9 hx hb hown htg hK hP dX6_does_112 ?_
      refine lv_iload_n hx hb dX6_does_115 rfl (lv_at hl 5 rfl) ?_
      refine lv_iconst (v := nI 3) hx hb dX6_does_116 (by decide) ?_
      refine lv_iaddN hx hb dX6_does_117 ?_
      refine md_l7 hx hb hK hP (by omega) dX6_does_118 ?_
      refine lv_aload_n hx hb dX6_does_119 rfl (lv_at hl 4 rfl) ?_
      refine md_g9 hx hb hown htg hK hP dX6_does_120 ?_
      refine lv_iload_n hx hb dX6_does_123 rfl (lv_at hl 5 rfl) ?_
      refine lv_iconst (v := nI 4) hx hb dX6_does_124 (by decide) ?_
      refine lv_iaddN hx hb dX6_does_125 ?_
      refine md_l7 hx hb hK hP (by omega) dX6_does_126 ?_
      refine md_cVr (As := [.int ((F 7) (to + 1)), .int ((F 7) (to + 2)), .int ((F 7) (to + 3)), .int ((F 7) (to + 4))]) (rest := []) hx hb hown htg hK hI hS hP hml hl.1 (m6_stallComes l D ct ad _ _ _ _ ((F 7) (to + 1)) ((F 7) (to + 2)) ((F 7) (to + 3)) ((F 7) (to + 4)) n hw (by omega)) cw_X6_98 rfl rfl ⟨Nat.le_of_ble_eq_true rfl, Nat.le_of_ble_eq_true rfl⟩ (Nat.le_of_ble_eq_true rfl) dX6_does_127 ⟨Nat.le_refl _, Nat.le_refl _⟩ (fun H locs hP hS => ?_)
      refine lv_pop hx hb dX6_does_130 rfl ?_
      refine lv_goto (tgt := 167) hx hb dX6_does_131 (by decide) ?_
      refine lv_iload hx hb dX6_does_167 (lv_at hl 0 rfl) ?_
      refine fr_iret hx hb hr hlocks hK hI hS rfl dX6_does_169 ?_ ?_
      · exact (congrArg bi (show (dsB Z n (F 7) to) = true from by first | (exfalso; omega) | (simp only [dsB, c29, c40, Nat.not_le.mpr c40, decide_true, decide_false, Bool.and_true, Bool.true_and, Bool.and_false, Bool.false_and, Bool.or_true, Bool.true_or, Bool.or_false, Bool.false_or, Bool.and_self, Bool.or_self, if_true, if_false, eq_self, Bool.false_eq_true, Bool.true_eq_false, reduceCtorEq, not_true_eq_false, not_false_eq_true, and_true, true_and, and_false, false_and, or_true, true_or, or_false, false_or, and_self, or_self, Int32.add_zero]; done) | (simp only [dsB, c29, c40, Nat.not_le.mpr c40, decide_true, decide_false, Bool.and_true, Bool.true_and, Bool.and_false, Bool.false_and, Bool.or_true, Bool.true_or, Bool.or_false, Bool.false_or, Bool.and_self, Bool.or_self, if_true, if_false, eq_self, Bool.false_eq_true, Bool.true_eq_false, reduceCtorEq, not_true_eq_false, not_false_eq_true, and_true, true_and, and_false, false_and, or_true, true_or, or_false, false_or, and_self, or_self, Int32.add_zero]; rfl))).symm
      · refine fP.eqc (congrArg (fun v9 => mdc ct ad v9 g hs F) (show (dsZ Z n (F 7) to) = (comeZ Z n ((F 7) (to + 1)) ((F 7) (to + 2)) ((F 7) (to + 3)) ((F 7) (to + 4))) from by first | (exfalso; omega) | (simp only [dsZ, dsB, c29, c40, Nat.not_le.mpr c40, decide_true, decide_false, Bool.and_true, Bool.true_and, Bool.and_false, Bool.false_and, Bool.or_true, Bool.true_or, Bool.or_false, Bool.false_or, Bool.and_self, Bool.or_self, if_true, if_false, eq_self, Bool.false_eq_true, Bool.true_eq_false, reduceCtorEq, not_true_eq_false, not_false_eq_true, and_true, true_and, and_false, false_and, or_true, true_or, or_false, false_or, and_self, or_self, Int32.add_zero]; done) | (simp only [dsZ, dsB, c29, c40, Nat.not_le.mpr c40, decide_true, decide_false, Bool.and_true, Bool.true_and, Bool.and_false, Bool.false_and, Bool.or_true, Bool.true_or, Bool.or_false, Bool.false_or, Bool.and_self, Bool.or_self, if_true, if_false, eq_self, Bool.false_eq_true, Bool.true_eq_false, reduceCtorEq, not_true_eq_false, not_false_eq_true, and_true, true_and, and_false, false_and, or_true, true_or, or_false, false_or, and_self, or_self, Int32.add_zero]; rfl)).symm) ?_
        exact hP
