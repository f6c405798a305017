/-! CLASS AND REFERENCE: what they say alike, first part -/
/-- no two stalls are at one socket -/
def unS (Z : Nat → Int32) (n : Nat) : Prop := ∀ i j, i < n → j < n → Z (39 + 8 * i + 4) = Z (39 + 8 * j + 4) → ¬ Z (39 + 8 * i + 4) = -1 → i = j
theorem satN_at {Z : Nat → Int32} {q : Int32} : ∀ n, n ≤ 10 → (satN Z q n = 10 ∧ ∀ i, i < n → ¬ Z (39 + 8 * i + 4) = q) ∨ (satN Z q n < n ∧ Z (39 + 8 * satN Z q n + 4) = q)
  | 0, _ => Or.inl ⟨rfl, fun _ h => absurd h (Nat.not_lt_zero _)⟩
  | n + 1, hn => by
    by_cases c : Z (39 + 8 * n + 4) = q
    · right; rw [satN_t c]; exact ⟨by omega, c⟩
    · rw [satN_f c]
      rcases satN_at n (by omega) with ⟨h1, h2⟩ | ⟨h1, h2⟩
      · left
        refine ⟨h1, fun i hi => ?_⟩
        by_cases e : i = n
        · subst e; exact c
        · exact h2 i (by omega)
      · right; exact ⟨by omega, h2⟩
theorem cAt_is {M : Nat → Int32} {q : Int32} {n : Nat} : ∀ f i, n < f + i → (∀ j, j < i → ¬ M (39 + 8 * j + 4) = q) → (cAt M q n f i = -1 ∧ ∀ j, j < n → ¬ M (39 + 8 * j + 4) = q) ∨ ∃ j, j < n ∧ M (39 + 8 * j + 4) = q ∧ cAt M q n f i = nI j
  | 0, i, h, hb => Or.inl ⟨rfl, fun j hj => hb j (by omega)⟩
  | f + 1, i, h, hb => by
    by_cases c : i < n
    · by_cases c2 : M (39 + 8 * i + 4) = q
      · right; exact ⟨i, c, c2, cAt_hit (by omega) c c2⟩
      · rw [cAt_go (by omega) c c2]
        refine cAt_is f (i + 1) (by omega) (fun j hj => ?_)
        by_cases e : j = i
        · subst e; exact c2
        · exact hb j (by omega)
    · left; exact ⟨cAt_end (by omega), fun j hj => hb j (by omega)⟩
theorem at_eq {M Z : Nat → Int32} {n : Nat} {q : Int32} (hn : n ≤ 10) (hs : ∀ k, k < n → M (39 + 8 * k + 4) = Z (39 + 8 * k + 4)) (hu : unS Z n) (hq : ¬ q = -1) : cAt M q n 11 0 = ox (satN Z q n) := by
  rcases cAt_is (M := M) (q := q) (n := n) 11 0 (by omega) (fun j hj => absurd hj (Nat.not_lt_zero _)) with ⟨h1, h2⟩ | ⟨j, hj, h1, h2⟩
  · rcases satN_at (Z := Z) (q := q) n hn with ⟨h3, h4⟩ | ⟨h3, h4⟩
    · rw [h1, h3]; rfl
    · exact absurd ((hs _ h3).trans h4) (h2 _ h3)
  · rcases satN_at (Z := Z) (q := q) n hn with ⟨h3, h4⟩ | ⟨h3, h4⟩
    · exact absurd ((hs j hj).symm.trans h1) (h4 j hj)
    · have e : satN Z q n = j := hu _ _ h3 hj (h4.trans (h1.symm.trans (hs j hj))) (fun z => hq (h4.symm.trans z))
      rw [h2, e, ox_n (by omega)]

