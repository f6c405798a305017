/-! THE REFERENCE: how it reads a text -/
/-- a place, or none: 99 -/
def ow (w : Nat) : Int32 := if w = 99 then -1 else nI w
theorem ow_99 : ow 99 = -1 := rfl
theorem ow_n {w : Nat} (h : w ≠ 99) : ow w = nI w := if_neg h
theorem ow_m {w : Nat} (hw : w ≤ 99) (h : ow w = -1) : w = 99 := by
  by_cases h1 : w = 99
  · exact h1
  · rw [ow_n h1] at h; exact absurd h (nI_nm1 (by omega))
theorem ow_nm {w : Nat} (h : ¬ ow w = -1) : w ≠ 99 := fun q => h (by rw [q]; rfl)
def ltr (B : Nat → Int32) (tn p : Nat) : Int32 := if p < tn then B p else -1
theorem ltr_lt {B : Nat → Int32} {tn p c : Nat} (hc : c < 2147483648) (h : ltr B tn p = nI c) : p < tn := by
  unfold ltr at h
  by_cases q : p < tn
  · exact q
  · rw [if_neg q] at h; exact absurd h.symm (nI_nm1 hc)
/-- places: not past the end by more than one, and not past it where nothing is wrong -/
def pI (tn p w : Nat) : Prop := p ≤ tn + 1 ∧ (w = 99 → p ≤ tn) ∧ w ≤ 99
def wnP (p w : Nat) : Nat := if w = 99 then p + 1 else p
def wnW (p w : Nat) (b : Bool) : Nat := if w = 99 then (if b = true then 99 else p) else w
theorem pg4 (g : Nat → Int32) (a b c d : Int32) : upd (upd (upd (upd g 11 a) 12 b) 12 c) 11 d = upd (upd g 11 d) 12 c := by
  funext j; unfold upd
  by_cases h : j = 11
  · subst h; rfl
  · by_cases h2 : j = 12
    · subst h2; rfl
    · rw [if_neg h, if_neg h2, if_neg h2, if_neg h, if_neg h2, if_neg h]
theorem wn_pI {tn p w : Nat} {b : Bool} (ht : tn ≤ 60) (h : pI tn p w) (hb : b = true → w = 99 → p < tn) : pI tn (wnP p w) (wnW p w b) := by
  obtain ⟨h1, h2, h3⟩ := h
  unfold wnP wnW pI
  by_cases e : w = 99
  · rw [if_pos e, if_pos e]
    have h4 := h2 e
    cases b
    · refine ⟨by omega, fun q => ?_, ?_⟩
      · simp at q; omega
      · simp; omega
    · have := hb rfl e
      exact ⟨by omega, fun _ => by omega, Nat.le_refl 99⟩
  · rw [if_neg e, if_neg e]
    exact ⟨h1, fun q => absurd q e, h3⟩
def nuD (B : Nat → Int32) (tn p : Nat) : Int32 := ltr B tn p - nI 48
def nuC (B : Nat → Int32) (tn : Nat) (v : Int32) (p : Nat) (hi : Int32) : Bool := decide (0 < v) && inB (nuD B tn p) (nI 0) (nI 9) && decide (nI 10 * v + nuD B tn p ≤ hi)
def nuL (B : Nat → Int32) (tn : Nat) (hi : Int32) : Nat → Int32 → Nat → Int32 × Nat
  | 0, v, p => (v, p)
  | f + 1, v, p => if nuC B tn v p hi = true then nuL B tn hi f (nI 10 * v + nuD B tn p) (p + 1) else (v, p)
/-- a number: what is answered, the place, what is wrong -/
def nuR (B : Nat → Int32) (tn p w : Nat) (lo hi : Int32) : Int32 × Nat × Nat :=
  if wnW p w (inB (nuD B tn p) lo (nI 9)) = 99 then ((nuL B tn hi 62 (nuD B tn p) (wnP p w)).1, (nuL B tn hi 62 (nuD B tn p) (wnP p w)).2, 99) else (nuD B tn p, wnP p w, wnW p w (inB (nuD B tn p) lo (nI 9)))
theorem nuD_lt {B : Nat → Int32} {tn p : Nat} {lo : Int32} (hlo : 0 ≤ lo) (h : inB (nuD B tn p) lo (nI 9) = true) : p < tn := by
  by_cases q : p < tn
  · exact q
  · unfold nuD ltr inB at h
    rw [if_neg q] at h
    simp only [Bool.and_eq_true, decide_eq_true_eq] at h
    exact absurd (Int32.le_trans hlo h.1) (by decide)
theorem nuL_pI {B : Nat → Int32} {tn : Nat} {hi : Int32} : ∀ f v p, p ≤ tn → (nuL B tn hi f v p).2 ≤ tn ∧ p ≤ (nuL B tn hi f v p).2
  | 0, _, _, h => ⟨h, Nat.le_refl _⟩
  | f + 1, v, p, h => by
    unfold nuL
    by_cases c : nuC B tn v p hi = true
    · rw [if_pos c]
      have h1 : p < tn := by
        unfold nuC at c
        simp only [Bool.and_eq_true] at c
        exact nuD_lt (by decide) c.1.2
      have := nuL_pI (B := B) (tn := tn) (hi := hi) f (nI 10 * v + nuD B tn p) (p + 1) h1
      exact ⟨this.1, by omega⟩
    · rw [if_neg c]
      exact ⟨h, Nat.le_refl _⟩
theorem nuR_pI {B : Nat → Int32} {tn p w : Nat} {lo hi : Int32} (ht : tn ≤ 60) (hlo : 0 ≤ lo) (h : pI tn p w) : pI tn (nuR B tn p w lo hi).2.1 (nuR B tn p w lo hi).2.2 := by
  have h1 := wn_pI (b := inB (nuD B tn p) lo (nI 9)) ht h (fun q _ => nuD_lt hlo q)
  unfold nuR
  by_cases e : wnW p w (inB (nuD B tn p) lo (nI 9)) = 99
  · rw [if_pos e]
    rw [e] at h1
    have h2 := nuL_pI (B := B) (hi := hi) 62 (nuD B tn p) (wnP p w) (h1.2.1 rfl)
    refine ⟨?_, fun _ => h2.1, Nat.le_refl 99⟩
    show (nuL B tn hi 62 (nuD B tn p) (wnP p w)).2 ≤ tn + 1
    omega
  · rw [if_neg e]
    exact h1
theorem nuR_w {B : Nat → Int32} {tn p w : Nat} {lo hi : Int32} {r : Int32 × Nat × Nat} (h : nuR B tn p w lo hi = r) (ht : tn ≤ 60) (hlo : 0 ≤ lo) (hp : pI tn p w) : pI tn r.2.1 r.2.2 := by rw [← h]; exact nuR_pI ht hlo hp
theorem nuL_no {B : Nat → Int32} {tn : Nat} {hi v : Int32} {f p : Nat} (h : nuC B tn v p hi = false) : nuL B tn hi f v p = (v, p) := by
  cases f
  · rfl
  · rw [nuL, if_neg (by rw [h]; exact Bool.false_ne_true)]
theorem nuL_go {B : Nat → Int32} {tn : Nat} {hi v : Int32} {f p : Nat} (hf : 1 ≤ f) (h : nuC B tn v p hi = true) : nuL B tn hi f v p = nuL B tn hi (f - 1) (nI 10 * v + nuD B tn p) (p + 1) := by
  cases f
  · omega
  · rw [nuL, if_pos h]; rfl
theorem nuC_lt {B : Nat → Int32} {tn : Nat} {hi v : Int32} {p : Nat} (h : nuC B tn v p hi = true) : p < tn := by
  unfold nuC at h
  simp only [Bool.and_eq_true] at h
  exact nuD_lt (by decide) h.1.2
theorem pg6 (g : Nat → Int32) (a b c : Int32) : upd (upd (upd g 11 a) 12 b) 11 c = upd (upd g 11 c) 12 b := by
  funext j; unfold upd
  by_cases h : j = 11
  · subst h; rfl
  · by_cases h2 : j = 12
    · subst h2; rfl
    · simp only [if_neg h, if_neg h2]
/-- a number, then a sign -/
def nsR (B : Nat → Int32) (tn p w : Nat) (O : Nat → Int32) (lo hi : Int32) (i : Nat) (sg : Int32) : Nat × Nat × (Nat → Int32) :=
  (wnP (nuR B tn p w lo hi).2.1 (nuR B tn p w lo hi).2.2, wnW (nuR B tn p w lo hi).2.1 (nuR B tn p w lo hi).2.2 (decide (ltr B tn (nuR B tn p w lo hi).2.1 = sg)), upd O i (nuR B tn p w lo hi).1)
def nfR (B : Nat → Int32) (tn p w : Nat) (O : Nat → Int32) (lo hi : Int32) (i : Nat) : Nat × Nat × (Nat → Int32) :=
  ((nuR B tn p w lo hi).2.1, (nuR B tn p w lo hi).2.2, upd O i (nuR B tn p w lo hi).1)
def rs1 (B : Nat → Int32) (tn p w : Nat) (O : Nat → Int32) (to : Nat) := nsR B tn p w O (nI 1) (nI 500) (to + 1) (nI 64)
def rs2 (B : Nat → Int32) (tn p w : Nat) (O : Nat → Int32) (to : Nat) := nsR B tn (rs1 B tn p w O to).1 (rs1 B tn p w O to).2.1 (rs1 B tn p w O to).2.2 (nI 0) (nI 23) (to + 2) (nI 45)
def rs3 (B : Nat → Int32) (tn p w : Nat) (O : Nat → Int32) (to : Nat) := nsR B tn (rs2 B tn p w O to).1 (rs2 B tn p w O to).2.1 (rs2 B tn p w O to).2.2 (nI 0) (nI 23) (to + 3) (nI 42)
/-- a stall's order -/
def rsR (B : Nat → Int32) (tn p w : Nat) (O : Nat → Int32) (to : Nat) : Nat × Nat × (Nat → Int32) := nfR B tn (rs3 B tn p w O to).1 (rs3 B tn p w O to).2.1 (rs3 B tn p w O to).2.2 (nI 1) (nI 9) (to + 4)
def rq1 (B : Nat → Int32) (tn p w : Nat) (O : Nat → Int32) (to : Nat) := nsR B tn p w O (nI 0) (nI 9) (to + 1) (nI 61)
def rqR (B : Nat → Int32) (tn p w : Nat) (O : Nat → Int32) (to : Nat) : Nat × Nat × (Nat → Int32) := nfR B tn (rq1 B tn p w O to).1 (rq1 B tn p w O to).2.1 (rq1 B tn p w O to).2.2 (nI 0) (nI 11) (to + 2)
def kdB (c : Int32) : Bool := decide (c = nI 115) || (decide (c = nI 112) || decide (c = nI 104))
/-- an order -/
def roR (B : Nat → Int32) (tn p w : Nat) (O : Nat → Int32) (o : Nat) : Nat × Nat × (Nat → Int32) :=
  if ltr B tn p = nI 115 then rsR B tn (wnP p w) (wnW p w (kdB (ltr B tn p))) (upd O (5 * o) (ltr B tn p)) (5 * o)
  else if ltr B tn p = nI 112 then rqR B tn (wnP p w) (wnW p w (kdB (ltr B tn p))) (upd O (5 * o) (ltr B tn p)) (5 * o)
  else nfR B tn (wnP p w) (wnW p w (kdB (ltr B tn p))) (upd O (5 * o) (ltr B tn p)) (nI 1) (nI 48) (5 * o + 1)
theorem pg5 (g : Nat → Int32) (a b c : Int32) : upd (upd (upd g 11 a) 12 b) 10 c = upd (upd (upd g 10 c) 11 a) 12 b := by
  funext j; unfold upd
  by_cases h : j = 10
  · subst h; rfl
  · by_cases h1 : j = 11
    · subst h1; rfl
    · by_cases h2 : j = 12
      · subst h2; rfl
      · simp only [if_neg h, if_neg h1, if_neg h2]
theorem nsR_pI {B : Nat → Int32} {tn p w : Nat} {O : Nat → Int32} {lo hi : Int32} {i c : Nat} (ht : tn ≤ 60) (hlo : 0 ≤ lo) (hc : c < 2147483648) (h : pI tn p w) : pI tn (nsR B tn p w O lo hi i (nI c)).1 (nsR B tn p w O lo hi i (nI c)).2.1 :=
  wn_pI ht (nuR_pI ht hlo h) (fun q _ => ltr_lt hc (of_decide_eq_true q))
theorem nfR_pI {B : Nat → Int32} {tn p w : Nat} {O : Nat → Int32} {lo hi : Int32} {i : Nat} (ht : tn ≤ 60) (hlo : 0 ≤ lo) (h : pI tn p w) : pI tn (nfR B tn p w O lo hi i).1 (nfR B tn p w O lo hi i).2.1 := nuR_pI ht hlo h
theorem rsR_pI {B : Nat → Int32} {tn p w : Nat} {O : Nat → Int32} {to : Nat} (ht : tn ≤ 60) (h : pI tn p w) : pI tn (rsR B tn p w O to).1 (rsR B tn p w O to).2.1 :=
  nfR_pI ht (by decide) (nsR_pI ht (by decide) (by decide) (nsR_pI ht (by decide) (by decide) (nsR_pI ht (by decide) (by decide) h)))
theorem rqR_pI {B : Nat → Int32} {tn p w : Nat} {O : Nat → Int32} {to : Nat} (ht : tn ≤ 60) (h : pI tn p w) : pI tn (rqR B tn p w O to).1 (rqR B tn p w O to).2.1 :=
  nfR_pI ht (by decide) (nsR_pI ht (by decide) (by decide) h)
theorem kdB_lt {B : Nat → Int32} {tn p : Nat} (h : kdB (ltr B tn p) = true) : p < tn := by
  unfold kdB at h
  simp only [Bool.or_eq_true, decide_eq_true_eq] at h
  rcases h with h | h | h
  · exact ltr_lt (by decide) h
  · exact ltr_lt (by decide) h
  · exact ltr_lt (by decide) h
theorem roR_pI {B : Nat → Int32} {tn p w : Nat} {O : Nat → Int32} {o : Nat} (ht : tn ≤ 60) (h : pI tn p w) : pI tn (roR B tn p w O o).1 (roR B tn p w O o).2.1 := by
  have h1 := wn_pI (b := kdB (ltr B tn p)) ht h (fun q _ => kdB_lt q)
  unfold roR
  split
  · exact rsR_pI ht h1
  · split
    · exact rqR_pI ht h1
    · exact nfR_pI ht (by decide) h1
/-- where nothing is wrong at the end, nothing was at the start, and the place has gone on -/
theorem wn_go {p w : Nat} {b : Bool} (hw : w ≤ 99) (hp : p < 99) (h : wnW p w b = 99) : w = 99 ∧ b = true ∧ wnP p w = p + 1 := by
  unfold wnW at h
  by_cases e : w = 99
  · rw [if_pos e] at h
    cases b
    · simp at h; omega
    · exact ⟨e, rfl, if_pos e⟩
  · rw [if_neg e] at h; omega
theorem nuR_go {B : Nat → Int32} {tn p w : Nat} {lo hi : Int32} (ht : tn ≤ 60) (hp : pI tn p w) (hlo : 0 ≤ lo) (h : (nuR B tn p w lo hi).2.2 = 99) : w = 99 ∧ p + 1 ≤ (nuR B tn p w lo hi).2.1 := by
  have h0 := hp.1
  have h1 := wn_pI (b := inB (nuD B tn p) lo (nI 9)) ht hp (fun q _ => nuD_lt hlo q)
  unfold nuR at h ⊢
  by_cases e : wnW p w (inB (nuD B tn p) lo (nI 9)) = 99
  · rw [if_pos e] at h ⊢
    obtain ⟨h2, -, h3⟩ := wn_go hp.2.2 (by omega) e
    have h4 := (nuL_pI (B := B) (tn := tn) (hi := hi) 62 (nuD B tn p) (wnP p w) (h1.2.1 e)).2
    refine ⟨h2, ?_⟩
    show p + 1 ≤ (nuL B tn hi 62 (nuD B tn p) (wnP p w)).2
    omega
  · rw [if_neg e] at h
    exact absurd h e
theorem nsR_go {B : Nat → Int32} {tn p w : Nat} {O : Nat → Int32} {lo hi sg : Int32} {i : Nat} (ht : tn ≤ 60) (hp : pI tn p w) (hlo : 0 ≤ lo) (h : (nsR B tn p w O lo hi i sg).2.1 = 99) : w = 99 ∧ p + 2 ≤ (nsR B tn p w O lo hi i sg).1 := by
  have h1 := nuR_pI (B := B) (hi := hi) ht hlo hp
  obtain ⟨h2, -, h3⟩ := wn_go h1.2.2 (by have := h1.1; omega) h
  obtain ⟨h4, h5⟩ := nuR_go ht hp hlo h2
  refine ⟨h4, ?_⟩
  show p + 2 ≤ wnP _ _
  rw [h3]
  omega
theorem rsR_go {B : Nat → Int32} {tn p w : Nat} {O : Nat → Int32} {to : Nat} (ht : tn ≤ 60) (hp : pI tn p w) (h : (rsR B tn p w O to).2.1 = 99) : w = 99 ∧ p + 1 ≤ (rsR B tn p w O to).1 := by
  have q1 : pI tn (rs1 B tn p w O to).1 (rs1 B tn p w O to).2.1 := by unfold rs1; exact nsR_pI ht (by decide) (by decide) hp
  have q2 : pI tn (rs2 B tn p w O to).1 (rs2 B tn p w O to).2.1 := by unfold rs2; exact nsR_pI ht (by decide) (by decide) q1
  have q3 : pI tn (rs3 B tn p w O to).1 (rs3 B tn p w O to).2.1 := by unfold rs3; exact nsR_pI ht (by decide) (by decide) q2
  unfold rsR nfR at h ⊢
  obtain ⟨h1, h2⟩ := nuR_go ht q3 (by decide) h
  have g3 : (rs2 B tn p w O to).2.1 = 99 ∧ (rs2 B tn p w O to).1 + 2 ≤ (rs3 B tn p w O to).1 := by unfold rs3 at h1 ⊢; exact nsR_go ht q2 (by decide) h1
  have g2 : (rs1 B tn p w O to).2.1 = 99 ∧ (rs1 B tn p w O to).1 + 2 ≤ (rs2 B tn p w O to).1 := by
    have := g3.1
    unfold rs2 at this ⊢; exact nsR_go ht q1 (by decide) this
  have g1 : w = 99 ∧ p + 2 ≤ (rs1 B tn p w O to).1 := by
    have := g2.1
    unfold rs1 at this ⊢; exact nsR_go ht hp (by decide) this
  refine ⟨g1.1, ?_⟩
  show p + 1 ≤ (nuR B tn (rs3 B tn p w O to).1 (rs3 B tn p w O to).2.1 (nI 1) (nI 9)).2.1
  have := g1.2; have := g2.2; have := g3.2
  omega
theorem rqR_go {B : Nat → Int32} {tn p w : Nat} {O : Nat → Int32} {to : Nat} (ht : tn ≤ 60) (hp : pI tn p w) (h : (rqR B tn p w O to).2.1 = 99) : w = 99 ∧ p + 1 ≤ (rqR B tn p w O to).1 := by
  have q1 : pI tn (rq1 B tn p w O to).1 (rq1 B tn p w O to).2.1 := by unfold rq1; exact nsR_pI ht (by decide) (by decide) hp
  unfold rqR nfR at h ⊢
  obtain ⟨h1, h2⟩ := nuR_go ht q1 (by decide) h
  have g1 : w = 99 ∧ p + 2 ≤ (rq1 B tn p w O to).1 := by unfold rq1 at h1 ⊢; exact nsR_go ht hp (by decide) h1
  refine ⟨g1.1, ?_⟩
  show p + 1 ≤ (nuR B tn (rq1 B tn p w O to).1 (rq1 B tn p w O to).2.1 (nI 0) (nI 11)).2.1
  have := g1.2
  omega
theorem roR_go {B : Nat → Int32} {tn p w : Nat} {O : Nat → Int32} {o : Nat} (ht : tn ≤ 60) (hp : pI tn p w) (h : (roR B tn p w O o).2.1 = 99) : w = 99 ∧ p + 2 ≤ (roR B tn p w O o).1 := by
  have h0 := hp.1
  have h1 := wn_pI (b := kdB (ltr B tn p)) ht hp (fun q _ => kdB_lt q)
  have fin : ∀ x : Nat, wnW p w (kdB (ltr B tn p)) = 99 → wnP p w + 1 ≤ x → w = 99 ∧ p + 2 ≤ x := by
    intro x q1 q2
    obtain ⟨h2, -, h3⟩ := wn_go hp.2.2 (by omega) q1
    exact ⟨h2, by omega⟩
  unfold roR at h ⊢
  split
  · rename_i c; rw [if_pos c] at h
    obtain ⟨q1, q2⟩ := rsR_go ht h1 h
    exact fin _ q1 q2
  · rename_i c; rw [if_neg c] at h
    split
    · rename_i c; rw [if_pos c] at h
      obtain ⟨q1, q2⟩ := rqR_go ht h1 h
      exact fin _ q1 q2
    · rename_i c; rw [if_neg c] at h
      obtain ⟨q1, q2⟩ := nuR_go ht h1 (by decide) h
      exact fin _ q1 q2
/-- the whole buffer, from an order's start on: how many orders, the place, what is wrong, the orders -/
def rbL (B : Nat → Int32) (tn : Nat) : Nat → Nat → Nat → (Nat → Int32) → Nat × Nat × Nat × (Nat → Int32)
  | 0, o, p, O => (o, p, 99, O)
  | f + 1, o, p, O =>
    if (roR B tn p 99 O o).2.1 = 99 ∧ (roR B tn p 99 O o).1 < tn then
      (if ltr B tn (roR B tn p 99 O o).1 = nI 59 then rbL B tn f (o + 1) ((roR B tn p 99 O o).1 + 1) (roR B tn p 99 O o).2.2
      else (o + 1, (roR B tn p 99 O o).1 + 1, (roR B tn p 99 O o).1, (roR B tn p 99 O o).2.2))
    else (o + 1, (roR B tn p 99 O o).1, (roR B tn p 99 O o).2.1, (roR B tn p 99 O o).2.2)
def rbR (B : Nat → Int32) (tn : Nat) (O : Nat → Int32) : Nat × Nat × Nat × (Nat → Int32) := rbL B tn 22 0 0 O
set_option maxRecDepth 100000 in
set_option maxHeartbeats 4000000 in
theorem m6_letter (l : Launch) (D : va_G) (ct : Nat → ClassId) (ad : Nat → Nat) (Z g : Nat → Int32) (hs : Int64) (F : Nat → Nat → Int32)  (pp : Nat) (ww : Nat) (tn : Nat)  (ht : g 8 = nI tn) (htn : tn ≤ 60) (hpi : pI tn pp ww) : FMet l yX6_letter cX6_letter 1 (some .int) 0 0 D ct 8 ad [.ref (ad 0)] (mdc ct ad Z (upd (upd g 11 (nI pp)) 12 (ow ww)) hs F) (some (.int (ltr (F 6) tn pp))) (mdc ct ad Z (upd (upd g 11 (nI pp)) 12 (ow ww)) hs F) := by
  refine FMet.of (by decide +kernel) (Nat.le_of_ble_eq_true rfl) ?_
  intro p e s m args below meth c ls hx hb hr hml hown hlocks htg hK hI hP hS hl
  have hl : lv_has ls 1 [(0, .ref (ad 0))] := hl
  have hp1 := hpi.1
  have hp3 := hpi.2.2
  refine lv_aload_n hx hb dX6_letter_0 rfl (lv_at hl 0 rfl) ?_
  refine md_g11 (v := nI pp) hx hb hown htg hK hP rfl dX6_letter_1 ?_
  refine lv_aload_n hx hb dX6_letter_4 rfl (lv_at hl 0 rfl) ?_
  refine md_g8 (v := g 8) hx hb hown htg hK hP rfl dX6_letter_5 ?_
  refine lv_teq ht ?_
  refine lv_icmp_geN (tgt := 23) hx hb (by omega) (by omega) dX6_letter_8 (by decide) (fun c8 => ?_) (fun c8 => ?_)
  · refine lv_iconst (v := -1) hx hb dX6_letter_23 (by decide) ?_
    refine fr_iret hx hb hr hlocks hK hI hS rfl dX6_letter_24 ?_ ?_
    · first | (exfalso; omega) | (simp only [ltr, c8, Nat.not_lt.mpr c8, decide_true, decide_false, Bool.and_true, Bool.true_and, Bool.and_false, Bool.false_and, Bool.or_true, Bool.true_or, Bool.or_false, Bool.false_or, Bool.and_self, Bool.or_self, if_true, if_false, eq_self, Bool.false_eq_true, Bool.true_eq_false, reduceCtorEq, nI_0, not_true_eq_false, not_false_eq_true, and_true, true_and, and_false, false_and, or_true, true_or, or_false, false_or, and_self, or_self, Int32.add_zero]; done) | (simp [ltr, c8, Nat.not_lt.mpr c8, nI_0]; done) | (simp only [ltr, c8, Nat.not_lt.mpr c8, decide_true, decide_false, Bool.and_true, Bool.true_and, Bool.and_false, Bool.false_and, Bool.or_true, Bool.true_or, Bool.or_false, Bool.false_or, Bool.and_self, Bool.or_self, if_true, if_false, eq_self, Bool.false_eq_true, Bool.true_eq_false, reduceCtorEq, nI_0, not_true_eq_false, not_false_eq_true, and_true, true_and, and_false, false_and, or_true, true_or, or_false, false_or, and_self, or_self, Int32.add_zero]; omega) | (simp [ltr, c8, Nat.not_lt.mpr c8, nI_0]; omega)
    · exact hP
  · refine lv_aload_n hx hb dX6_letter_11 rfl (lv_at hl 0 rfl) ?_
    refine md_g7 hx hb hown htg hK hP dX6_letter_12 ?_
    refine lv_aload_n hx hb dX6_letter_15 rfl (lv_at hl 0 rfl) ?_
    refine md_g11 (v := nI pp) hx hb hown htg hK hP rfl dX6_letter_16 ?_
    refine md_l6 hx hb hK hP (by omega) dX6_letter_19 ?_
    refine lv_goto (tgt := 24) hx hb dX6_letter_20 (by decide) ?_
    refine fr_iret hx hb hr hlocks hK hI hS rfl dX6_letter_24 ?_ ?_
    · first | (exfalso; omega) | (simp only [ltr, c8, Nat.not_le.mpr c8, decide_true, decide_false, Bool.and_true, Bool.true_and, Bool.and_false, Bool.false_and, Bool.or_true, Bool.true_or, Bool.or_false, Bool.false_or, Bool.and_self, Bool.or_self, if_true, if_false, eq_self, Bool.false_eq_true, Bool.true_eq_false, reduceCtorEq, nI_0, not_true_eq_false, not_false_eq_true, and_true, true_and, and_false, false_and, or_true, true_or, or_false, false_or, and_self, or_self, Int32.add_zero]; done) | (simp [ltr, c8, Nat.not_le.mpr c8, nI_0]; done) | (simp only [ltr, c8, Nat.not_le.mpr c8, decide_true, decide_false, Bool.and_true, Bool.true_and, Bool.and_false, Bool.false_and, Bool.or_true, Bool.true_or, Bool.or_false, Bool.false_or, Bool.and_self, Bool.or_self, if_true, if_false, eq_self, Bool.false_eq_true, Bool.true_eq_false, reduceCtorEq, nI_0, not_true_eq_false, not_false_eq_true, and_true, true_and, and_false, false_and, or_true, true_or, or_false, false_or, and_self, or_self, Int32.add_zero]; omega) | (simp [ltr, c8, Nat.not_le.mpr c8, nI_0]; omega)
    · exact hP
set_option maxRecDepth 100000 in
set_option maxHeartbeats 4000000 in
theorem m6_wants (l : Launch) (D : va_G) (ct : Nat → ClassId) (ad : Nat → Nat) (Z g : Nat → Int32) (hs : Int64) (F : Nat → Nat → Int32) (b : Bool) (pp : Nat) (ww : Nat) (tn : Nat)  (htn : tn ≤ 60) (hpi : pI tn pp ww) : FMet l yX6_wants cX6_wants 2 (none : Option Jvm.ClassFile.FieldType) 0 0 D ct 8 ad [.ref (ad 0), .int (bi b)] (mdc ct ad Z (upd (upd g 11 (nI pp)) 12 (ow ww)) hs F) none (mdc ct ad Z (upd (upd g 11 (nI (wnP pp ww))) 12 (ow (wnW pp ww b))) hs F) := by
  refine FMet.of (by decide +kernel) (Nat.le_of_ble_eq_true rfl) ?_
  intro p e s m args below meth c ls hx hb hr hml hown hlocks htg hK hI hP hS hl
  have hl : lv_has ls 2 [(0, .ref (ad 0)), (1, .int (bi b))] := hl
  have hp1 := hpi.1
  have hp3 := hpi.2.2
  refine lv_aload_n hx hb dX6_wants_0 rfl (lv_at hl 0 rfl) ?_
  refine md_g12 (v := ow ww) hx hb hown htg hK hP rfl dX6_wants_1 ?_
  refine lv_iconst (v := -1) hx hb dX6_wants_4 (by decide) ?_
  refine lv_icmp_ne (tgt := 34) hx hb dX6_wants_5 (by decide) (fun c5 => ?_) (fun c5 => ?_)
  · refine fr_vret hx hb hr hlocks hK hI hS dX6_wants_34 ?_
    refine fP.eqc (congrArg (fun v9 => mdc ct ad Z v9 hs F) (show (upd (upd g 11 (nI (wnP pp ww))) 12 (ow (wnW pp ww b))) = (upd (upd g 11 (nI pp)) 12 (ow ww)) from by first | (have h9 := ow_m hp3 c5; rw [pg4]; simp only [wnP, wnW, if_pos h9, c10, if_true, if_false, Bool.false_eq_true, ow_99]; done) | (have h9 := ow_m hp3 c5; have h8 := hpi.2.1 h9; rw [pg4]; simp only [wnP, wnW, if_pos h9, c10, if_true, if_false, Bool.false_eq_true, ow_n (show pp ≠ 99 from by omega)]; done) | (have h9 := ow_nm c5; simp only [wnP, wnW, if_neg h9])).symm) ?_
    exact hP
  · refine lv_aload_n hx hb dX6_wants_8 rfl (lv_at hl 0 rfl) ?_
    refine lv_iload_n hx hb dX6_wants_9 rfl (lv_at hl 1 rfl) ?_
    refine lv_ifeqB (tgt := 17) hx hb dX6_wants_10 (by decide) (fun c10 => ?_) (fun c10 => ?_)
    · refine lv_aload_n hx hb dX6_wants_17 rfl (lv_at hl 0 rfl) ?_
      refine md_g11 (v := nI pp) hx hb hown htg hK hP rfl dX6_wants_18 ?_
      refine md_p12 hx hb hown htg hK hI hS hP dX6_wants_21 (fun H locs hP hS => ?_)
      refine lv_aload_n hx hb dX6_wants_24 rfl (lv_at hl 0 rfl) ?_
      refine lv_dup hx hb dX6_wants_25 rfl ?_
      refine md_g11 (v := nI pp) hx hb hown htg hK hP rfl dX6_wants_26 ?_
      refine lv_iconst (v := nI 1) hx hb dX6_wants_29 (by decide) ?_
      refine lv_iaddN hx hb dX6_wants_30 ?_
      refine md_p11 hx hb hown htg hK hI hS hP dX6_wants_31 (fun H locs hP hS => ?_)
      refine fr_vret hx hb hr hlocks hK hI hS dX6_wants_34 ?_
      refine fP.eqc (congrArg (fun v9 => mdc ct ad Z v9 hs F) (show (upd (upd g 11 (nI (wnP pp ww))) 12 (ow (wnW pp ww b))) = (upd (upd (upd (upd g 11 (nI pp)) 12 (ow ww)) 12 (nI pp)) 11 (nI (pp + 1))) from by first | (have h9 := ow_m hp3 c5; rw [pg4]; simp only [wnP, wnW, if_pos h9, c10, if_true, if_false, Bool.false_eq_true, ow_99]; done) | (have h9 := ow_m hp3 c5; have h8 := hpi.2.1 h9; rw [pg4]; simp only [wnP, wnW, if_pos h9, c10, if_true, if_false, Bool.false_eq_true, ow_n (show pp ≠ 99 from by omega)]; done) | (have h9 := ow_nm c5; simp only [wnP, wnW, if_neg h9])).symm) ?_
      exact hP
    · refine lv_iconst (v := -1) hx hb dX6_wants_13 (by decide) ?_
      refine lv_goto (tgt := 21) hx hb dX6_wants_14 (by decide) ?_
      refine md_p12 hx hb hown htg hK hI hS hP dX6_wants_21 (fun H locs hP hS => ?_)
      refine lv_aload_n hx hb dX6_wants_24 rfl (lv_at hl 0 rfl) ?_
      refine lv_dup hx hb dX6_wants_25 rfl ?_
      refine md_g11 (v := nI pp) hx hb hown htg hK hP rfl dX6_wants_26 ?_
      refine lv_iconst (v := nI 1) hx hb dX6_wants_29 (by decide) ?_
      refine lv_iaddN hx hb dX6_wants_30 ?_
      refine md_p11 hx hb hown htg hK hI hS hP dX6_wants_31 (fun H locs hP hS => ?_)
      refine fr_vret hx hb hr hlocks hK hI hS dX6_wants_34 ?_
      refine fP.eqc (congrArg (fun v9 => mdc ct ad Z v9 hs F) (show (upd (upd g 11 (nI (wnP pp ww))) 12 (ow (wnW pp ww b))) = (upd (upd (upd (upd g 11 (nI pp)) 12 (ow ww)) 12 (-1)) 11 (nI (pp + 1))) from by first | (have h9 := ow_m hp3 c5; rw [pg4]; simp only [wnP, wnW, if_pos h9, c10, if_true, if_false, Bool.false_eq_true, ow_99]; done) | (have h9 := ow_m hp3 c5; have h8 := hpi.2.1 h9; rw [pg4]; simp only [wnP, wnW, if_pos h9, c10, if_true, if_false, Bool.false_eq_true, ow_n (show pp ≠ 99 from by omega)]; done) | (have h9 := ow_nm c5; simp only [wnP, wnW, if_neg h9])).symm) ?_
      exact hP
set_option maxRecDepth 100000 in
set_option maxHeartbeats 4000000 in
theorem m6_number (l : Launch) (D : va_G) (ct : Nat → ClassId) (ad : Nat → Nat) (Z g : Nat → Int32) (hs : Int64) (F : Nat → Nat → Int32) (lo : Int32) (hi : Int32) (pp : Nat) (ww : Nat) (tn : Nat) (rr : Int32 × Nat × Nat) (hrr : nuR (F 6) tn pp ww lo hi = rr) (ht : g 8 = nI tn) (htn : tn ≤ 60) (hpi : pI tn pp ww) (hlo : 0 ≤ lo) : FMet l yX6_number cX6_number 5 (some .int) 1 22 D ct 8 ad [.ref (ad 0), .int (lo), .int (hi)] (mdc ct ad Z (upd (upd g 11 (nI pp)) 12 (ow ww)) hs F) (some (.int (rr.1))) (mdc ct ad Z (upd (upd g 11 (nI rr.2.1)) 12 (ow rr.2.2)) hs F) := by
  refine FMet.of (by decide +kernel) (Nat.le_of_ble_eq_true rfl) ?_
  intro p e s m args below meth c ls hx hb hr hml hown hlocks htg hK hI hP hS hl
  have hl : lv_has ls 5 [(0, .ref (ad 0)), (1, .int (lo)), (2, .int (hi))] := hl
  have hp1 := hpi.1
  have hp3 := hpi.2.2
  have hp0 := (wn_pI (b := inB (nuD (F 6) tn pp) lo (nI 9)) htn hpi (fun q _ => nuD_lt hlo q)).1
  refine lv_aload_n hx hb dX6_number_0 rfl (lv_at hl 0 rfl) ?_
  refine md_cVr (As := []) (rest := []) hx hb hown htg hK hI hS hP hml hl.1 (m6_letter l D ct ad _ _ _ _ pp ww tn ht (by omega) hpi) cw_X6_138 rfl rfl ⟨Nat.le_of_ble_eq_true rfl, Nat.le_of_ble_eq_true rfl⟩ (Nat.le_of_ble_eq_true rfl) dX6_number_1 ⟨Nat.le_refl _, Nat.le_refl _⟩ (fun H locs hP hS => ?_)
  refine lv_bipush (v := nI 48) hx hb dX6_number_4 (by decide) ?_
  refine lv_isub hx hb dX6_number_6 ?_
  refine lv_istore_n (lv' := [(3, .int ((ltr ((F 6)) tn pp) - (nI 48))), (0, .ref (ad 0)), (1, .int (lo)), (2, .int (hi))]) hx hb dX6_number_7 rfl hl (by decide) rfl (fun ls hl => ?_)
  refine lv_aload_n hx hb dX6_number_8 rfl (lv_at hl 1 rfl) ?_
  refine lv_iload_n hx hb dX6_number_9 rfl (lv_at hl 0 rfl) ?_
  refine lv_iload_n hx hb dX6_number_10 rfl (lv_at hl 2 rfl) ?_
  refine lv_bipush (v := nI 9) hx hb dX6_number_11 (by decide) ?_
  refine md_cSr (As := [.int ((ltr ((F 6)) tn pp) - (nI 48)), .int (lo), .int (nI 9)]) (rest := [.ref (ad 0)]) hx hb hown htg hK hI hS hP hml hl.1 (m6_in l D ct ad _ _ _ _ ((ltr ((F 6)) tn pp) - (nI 48)) lo (nI 9)) cw_X6_40 rfl rfl ⟨Nat.le_of_ble_eq_true rfl, Nat.le_of_ble_eq_true rfl⟩ (Nat.le_of_ble_eq_true rfl) dX6_number_13 ⟨Nat.le_refl _, Nat.le_refl _⟩ (fun H locs hP hS => ?_)
  refine md_cV0 (As := [.int (bi (inB ((ltr ((F 6)) tn pp) - (nI 48)) lo (nI 9)))]) (rest := []) hx hb hown htg hK hI hS hP hml hl.1 (m6_wants l D ct ad _ _ _ _ (inB ((ltr ((F 6)) tn pp) - (nI 48)) lo (nI 9)) pp ww tn (by omega) hpi) cw_X6_141 rfl rfl ⟨Nat.le_of_ble_eq_true rfl, Nat.le_of_ble_eq_true rfl⟩ (Nat.le_of_ble_eq_true rfl) dX6_number_16 ⟨Nat.le_refl _, Nat.le_refl _⟩ (fun H locs hP hS => ?_)
  refine lv_aload_n hx hb dX6_number_19 rfl (lv_at hl 1 rfl) ?_
  refine md_cVr (As := []) (rest := []) hx hb hown htg hK hI hS hP hml hl.1 (m6_letter l D ct ad _ _ _ _ (wnP pp ww) (wnW pp ww (inB ((ltr ((F 6)) tn pp) - (nI 48)) lo (nI 9))) tn ht (by omega) (wn_pI htn hpi (fun q _ => nuD_lt hlo q))) cw_X6_138 rfl rfl ⟨Nat.le_of_ble_eq_true rfl, Nat.le_of_ble_eq_true rfl⟩ (Nat.le_of_ble_eq_true rfl) dX6_number_20 ⟨Nat.le_refl _, Nat.le_refl _⟩ (fun H locs hP hS => ?_)
  refine lv_bipush (v := nI 48) hx hb dX6_number_23 (by decide) ?_
  refine lv_isub hx hb dX6_number_25 ?_
  refine lv_istore (lv' := [(4, .int ((ltr ((F 6)) tn (wnP pp ww)) - (nI 48))), (3, .int ((ltr ((F 6)) tn pp) - (nI 48))), (0, .ref (ad 0)), (1, .int (lo)), (2, .int (hi))]) hx hb dX6_number_26 hl (by decide) rfl (fun ls hl => ?_)
  have lp28 : ∀ (fu28 : Nat) (f : Nat) (x : Int32) (j : Nat), 62 ≤ f + j → pI tn j (wnW pp ww (inB (nuD (F 6) tn pp) lo (nI 9))) → (if wnW pp ww (inB (nuD (F 6) tn pp) lo (nI 9)) = 99 then ((nuL (F 6) tn hi f x j).1, (nuL (F 6) tn hi f x j).2, 99) else (x, j, wnW pp ww (inB (nuD (F 6) tn pp) lo (nI 9)))) = rr → f < fu28 → ∀ (H : Heap) (locs : List Loc), fP D 8 ad (mdc ct ad Z (upd (upd g 11 (nI j)) 12 (ow (wnW pp ww (inB (nuD (F 6) tn pp) lo (nI 9))))) hs F) H → va_S (fA 8 ad) s.heap H locs → ∀ (ls : Array Slot), lv_has ls 5 [(4, .int (nuD (F 6) tn j)), (3, .int (x)), (0, .ref (ad 0)), (1, .int (lo)), (2, .int (hi))] → W p l e ({ frames := 1, cells := 0, slots := 0, locals := 22 }) s m args below meth c H locs 0 0 (MQ below (fQ D ct 8 ad (some (.int (rr.1))) (mdc ct ad Z (upd (upd g 11 (nI rr.2.1)) 12 (ow rr.2.2)) hs F)) args s 0 0 (fA 8 ad)) (F0 m 28 ls []) := by
    intro fu28
    induction fu28 with
    | zero => intro f x j hfj hj hres hfu28; exact absurd hfu28 (Nat.not_lt_zero _)
    | succ fu28 ih28 =>
      intro f x j hfj hj hres hfu28 H locs hP hS ls hl
      refine lv_aload_n hx hb dX6_number_28 rfl (lv_at hl 2 rfl) ?_
      refine md_g12 (v := ow (wnW pp ww (inB (nuD (F 6) tn pp) lo (nI 9)))) hx hb hown htg hK hP rfl dX6_number_29 ?_
      refine lv_iconst (v := -1) hx hb dX6_number_32 (by decide) ?_
      refine lv_icmp_ne (tgt := 92) hx hb dX6_number_33 (by decide) (fun c33 => ?_) (fun c33 => ?_)
      · have hr9 : rr = (x, j, wnW pp ww (inB (nuD (F 6) tn pp) lo (nI 9))) := by rw [← hres, if_neg (ow_nm c33)]
        refine lv_iload_n hx hb dX6_number_92 rfl (lv_at hl 1 rfl) ?_
        refine fr_iret hx hb hr hlocks hK hI hS rfl dX6_number_93 ?_ ?_
        · rw [hr9]
        · refine fP.eqc (congrArg (fun v9 => mdc ct ad Z v9 hs F) (show (upd (upd g 11 (nI rr.2.1)) 12 (ow rr.2.2)) = (upd (upd g 11 (nI j)) 12 (ow (wnW pp ww (inB (nuD (F 6) tn pp) lo (nI 9))))) from by rw [hr9]).symm) ?_
          exact hP
      · refine lv_iload_n hx hb dX6_number_36 rfl (lv_at hl 1 rfl) ?_
        refine lv_ifleR (tgt := 92) hx hb dX6_number_37 (by decide) (fun c37 => ?_) (fun c37 => ?_)
        · have h9 := ow_m hj.2.2 c33
          have hr9 : rr = (x, j, wnW pp ww (inB (nuD (F 6) tn pp) lo (nI 9))) := by rw [← hres, if_pos h9, nuL_no (by simp only [nuC, Int32.not_lt.mpr c37, decide_false, Bool.false_and]), h9]
          refine lv_iload_n hx hb dX6_number_92 rfl (lv_at hl 1 rfl) ?_
          refine fr_iret hx hb hr hlocks hK hI hS rfl dX6_number_93 ?_ ?_
          · rw [hr9]
          · refine fP.eqc (congrArg (fun v9 => mdc ct ad Z v9 hs F) (show (upd (upd g 11 (nI rr.2.1)) 12 (ow rr.2.2)) = (upd (upd g 11 (nI j)) 12 (ow (wnW pp ww (inB (nuD (F 6) tn pp) lo (nI 9))))) from by rw [hr9]).symm) ?_
            exact hP
        · refine lv_iload hx hb dX6_number_40 (lv_at hl 0 rfl) ?_
          refine lv_iconst (v := nI 0) hx hb dX6_number_42 (by decide) ?_
          refine lv_bipush (v := nI 9) hx hb dX6_number_43 (by decide) ?_
          refine md_cSr (As := [.int (nuD (F 6) tn j), .int (nI 0), .int (nI 9)]) (rest := []) hx hb hown htg hK hI hS hP hml hl.1 (m6_in l D ct ad _ _ _ _ (nuD (F 6) tn j) (nI 0) (nI 9)) cw_X6_40 rfl rfl ⟨Nat.le_of_ble_eq_true rfl, Nat.le_of_ble_eq_true rfl⟩ (Nat.le_of_ble_eq_true rfl) dX6_number_45 ⟨Nat.le_refl _, Nat.le_refl _⟩ (fun H locs hP hS => ?_)
          refine lv_ifeqB (tgt := 92) hx hb dX6_number_48 (by decide) (fun c48 => ?_) (fun c48 => ?_)
          · have h9 := ow_m hj.2.2 c33
            have hr9 : rr = (x, j, wnW pp ww (inB (nuD (F 6) tn pp) lo (nI 9))) := by rw [← hres, if_pos h9, nuL_no (by simp only [nuC, c48, Bool.and_false, Bool.false_and]), h9]
            refine lv_iload_n hx hb dX6_number_92 rfl (lv_at hl 1 rfl) ?_
            refine fr_iret hx hb hr hlocks hK hI hS rfl dX6_number_93 ?_ ?_
            · rw [hr9]
            · refine fP.eqc (congrArg (fun v9 => mdc ct ad Z v9 hs F) (show (upd (upd g 11 (nI rr.2.1)) 12 (ow rr.2.2)) = (upd (upd g 11 (nI j)) 12 (ow (wnW pp ww (inB (nuD (F 6) tn pp) lo (nI 9))))) from by rw [hr9]).symm) ?_
              exact hP
          · refine lv_bipush (v := nI 10) hx hb dX6_number_51 (by decide) ?_
            refine lv_iload_n hx hb dX6_number_53 rfl (lv_at hl 1 rfl) ?_
            refine lv_imul hx hb dX6_number_54 ?_
            refine lv_iload hx hb dX6_number_55 (lv_at hl 0 rfl) ?_
            refine lv_iadd hx hb dX6_number_57 ?_
            refine lv_iload_n hx hb dX6_number_58 rfl (lv_at hl 4 rfl) ?_
            refine lv_icmp_gtR (tgt := 92) hx hb dX6_number_59 (by decide) (fun c59 => ?_) (fun c59 => ?_)
            · have h9 := ow_m hj.2.2 c33
              have hr9 : rr = (x, j, wnW pp ww (inB (nuD (F 6) tn pp) lo (nI 9))) := by rw [← hres, if_pos h9, nuL_no (by simp only [nuC, Int32.not_le.mpr c59, decide_false, Bool.and_false]), h9]
              refine lv_iload_n hx hb dX6_number_92 rfl (lv_at hl 1 rfl) ?_
              refine fr_iret hx hb hr hlocks hK hI hS rfl dX6_number_93 ?_ ?_
              · rw [hr9]
              · refine fP.eqc (congrArg (fun v9 => mdc ct ad Z v9 hs F) (show (upd (upd g 11 (nI rr.2.1)) 12 (ow rr.2.2)) = (upd (upd g 11 (nI j)) 12 (ow (wnW pp ww (inB (nuD (F 6) tn pp) lo (nI 9))))) from by rw [hr9]).symm) ?_
                exact hP
            · have hC : nuC (F 6) tn x j hi = true := by simp only [nuC, c37, c48, c59, decide_true, Bool.and_self]
              have hjt := nuC_lt hC
              have h9 := ow_m hj.2.2 c33
              refine lv_bipush (v := nI 10) hx hb dX6_number_62 (by decide) ?_
              refine lv_iload_n hx hb dX6_number_64 rfl (lv_at hl 1 rfl) ?_
              refine lv_imul hx hb dX6_number_65 ?_
              refine lv_iload hx hb dX6_number_66 (lv_at hl 0 rfl) ?_
              refine lv_iadd hx hb dX6_number_68 ?_
              refine lv_istore_n (lv' := [(3, .int (((nI 10) * x) + (nuD (F 6) tn j))), (4, .int (nuD (F 6) tn j)), (0, .ref (ad 0)), (1, .int (lo)), (2, .int (hi))]) hx hb dX6_number_69 rfl hl (by decide) rfl (fun ls hl => ?_)
              refine lv_aload_n hx hb dX6_number_70 rfl (lv_at hl 2 rfl) ?_
              refine lv_dup hx hb dX6_number_71 rfl ?_
              refine md_g11 (v := nI j) hx hb hown htg hK hP rfl dX6_number_72 ?_
              refine lv_iconst (v := nI 1) hx hb dX6_number_75 (by decide) ?_
              refine lv_iaddN hx hb dX6_number_76 ?_
              refine md_p11 hx hb hown htg hK hI hS hP dX6_number_77 (fun H locs hP hS => ?_)
              refine lv_aload_n hx hb dX6_number_80 rfl (lv_at hl 2 rfl) ?_
              have hP := fP.eqc (congrArg (fun v9 => mdc ct ad Z v9 hs F) (show (upd (upd (upd g 11 (nI j)) 12 (ow (wnW pp ww (inB (nuD (F 6) tn pp) lo (nI 9))))) 11 (nI (j + 1))) = (upd (upd g 11 (nI (j + 1))) 12 (ow (wnW pp ww (inB (nuD (F 6) tn pp) lo (nI 9))))) from by first | exact pg6 _ _ _ _ | exact pg4 _ _ _ _ _ | (funext j9; simp only [upd]; (repeat' split) <;> first | rfl | omega | simp_all))) hP
              refine md_cVr (As := []) (rest := []) hx hb hown htg hK hI hS hP hml hl.1 (m6_letter l D ct ad _ _ _ _ (j + 1) (wnW pp ww (inB (nuD (F 6) tn pp) lo (nI 9))) tn ht (by omega) (⟨by omega, fun _ => by omega, hj.2.2⟩ : pI tn (j + 1) (wnW pp ww (inB (nuD (F 6) tn pp) lo (nI 9))))) cw_X6_138 rfl rfl ⟨Nat.le_of_ble_eq_true rfl, Nat.le_of_ble_eq_true rfl⟩ (Nat.le_of_ble_eq_true rfl) dX6_number_81 ⟨Nat.le_refl _, Nat.le_refl _⟩ (fun H locs hP hS => ?_)
              refine lv_bipush (v := nI 48) hx hb dX6_number_84 (by decide) ?_
              refine lv_isub hx hb dX6_number_86 ?_
              refine lv_istore (lv' := [(4, .int ((ltr ((F 6)) tn (j + 1)) - (nI 48))), (3, .int (((nI 10) * x) + (nuD (F 6) tn j))), (0, .ref (ad 0)), (1, .int (lo)), (2, .int (hi))]) hx hb dX6_number_87 hl (by decide) rfl (fun ls hl => ?_)
              refine lv_goto (tgt := 28) hx hb dX6_number_89 (by decide) ?_
              have hl := lv_sub (l' := [(4, .int ((ltr ((F 6)) tn (j + 1)) - (nI 48))), (3, .int (((nI 10) * x) + (nuD (F 6) tn j))), (0, .ref (ad 0)), (1, .int (lo)), (2, .int (hi))]) hl [0, 1, 2, 3, 4] rfl
              have e4 : Value.int ((ltr ((F 6)) tn (j + 1)) - (nI 48)) = Value.int (nuD (F 6) tn (j + 1)) := by rfl
              have e3 : Value.int (((nI 10) * x) + (nuD (F 6) tn j)) = Value.int ((((nI 10) * x) + (nuD (F 6) tn j))) := by rfl
              have hl := lv_hasE hl (lcons e4 (lcons e3 (lcons rfl (lcons rfl (lcons rfl rfl)))))
              exact ih28 (f - 1) (((nI 10) * x) + (nuD (F 6) tn j)) (j + 1) (by omega) (⟨by omega, fun _ => by omega, hj.2.2⟩) (by rw [if_pos h9, nuL_go (by omega) hC] at hres; rw [if_pos h9]; exact hres) (by omega) _ _ hP hS _ hl
  have hl := lv_sub (l' := [(4, .int ((ltr ((F 6)) tn (wnP pp ww)) - (nI 48))), (3, .int ((ltr ((F 6)) tn pp) - (nI 48))), (0, .ref (ad 0)), (1, .int (lo)), (2, .int (hi))]) hl [0, 1, 2, 3, 4] rfl
  have e4 : Value.int ((ltr ((F 6)) tn (wnP pp ww)) - (nI 48)) = Value.int (nuD (F 6) tn (wnP pp ww)) := by rfl
  have e3 : Value.int ((ltr ((F 6)) tn pp) - (nI 48)) = Value.int ((nuD (F 6) tn pp)) := by rfl
  have hl := lv_hasE hl (lcons e4 (lcons e3 (lcons rfl (lcons rfl (lcons rfl rfl)))))
  have hP := fP.eqc (congrArg (fun v9 => mdc ct ad Z v9 hs F) (show (upd (upd g 11 (nI (wnP pp ww))) 12 (ow (wnW pp ww (inB ((ltr ((F 6)) tn pp) - (nI 48)) lo (nI 9))))) = (upd (upd g 11 (nI (wnP pp ww))) 12 (ow (wnW pp ww (inB (nuD (F 6) tn pp) lo (nI 9))))) from by rfl)) hP
  exact lp28 (62 + 1) 62 (nuD (F 6) tn pp) (wnP pp ww) (by omega) (wn_pI htn hpi (fun q _ => nuD_lt hlo q)) (hrr) (Nat.lt_succ_self _) _ _ hP hS _ hl
