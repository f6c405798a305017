/-! THE STATICS of the settings -/
theorem xb {w : Cond} (h : w ∈ lw_tbl) (g : goodWord w = true) : w ∈ wB := List.mem_filter.mpr ⟨h, g⟩
def leV (j : Nat) : Int32 := if j = 0 then nI 1 else if j = 1 then nI 0 else nI 1
def moV (j : Nat) : Int32 := if j = 0 then nI 9 else if j = 1 then nI 1 else nI 99
/-- what a setting's bounds stand on: two static rows of numbers; none of it in A -/
def gE (A : Nat → Prop) (U : State) (H : Heap) : Prop :=
  (∃ t, va_Z RX5 "LEAST_VALUES" "[I" (.ref t) A U H ∧ va_T .int t 3 (fun j => .int (leV j)) A U H) ∧ ∃ t, va_Z RX5 "MOST_VALUES" "[I" (.ref t) A U H ∧ va_T .int t 3 (fun j => .int (moV j)) A U H
theorem gE.to {A : Nat → Prop} {s U : State} {H0 H : Heap} (h : gE A s H0) (hW : s.WarmedH U.vm) (hq : ∀ a : Nat, a < H0.size → ¬ A a → H[a]? = H0[a]?) : gE A U H := by
  obtain ⟨⟨t, t1, t2⟩, r, r1, r2⟩ := h
  exact ⟨⟨t, va_Z.moved hW.alike (t1.kept hq), va_T.moved hW.alike (t2.kept hq)⟩, r, va_Z.moved hW.alike (r1.kept hq), va_T.moved hW.alike (r2.kept hq)⟩
theorem gE.narrow {A B : Nat → Prop} {U : State} {H : Heap} (h : gE A U H) (hAB : ∀ q, B q → A q) : gE B U H := by
  obtain ⟨⟨t, t1, t2⟩, r, r1, r2⟩ := h
  exact ⟨⟨t, t1.narrow hAB, t2.narrow hAB⟩, r, r1.narrow hAB, r2.narrow hAB⟩
