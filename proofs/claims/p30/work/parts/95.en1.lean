/-! THE ENTRY: classes, arrays, statics, texts -/
theorem ak_p {args : Array Value} {s : State} {ty : FieldType} (h : (Cond.arrayClass ty).before args s = true) (hn : ∀ C, ty ≠ .object C) : ∃ cA, ArrOfT s cA ty ∧ va_RA s cA ty := by
  obtain ⟨c, k, comp, h1, h2, h3⟩ := Cond.arrayClass_spec h
  refine ⟨c, fun n z => ⟨(fun k h => by cases h), k, h2, comp, h3⟩, ?_⟩
  cases ty <;> first | exact h1 | exact absurd rfl (hn _)
theorem ak_o {args : Array Value} {s : State} {C : String} (h : (Cond.arrayOver (.object C)).before args s = true) : ∃ cA, ArrOfT s cA (.object C) ∧ va_RA s cA (.object C) := by
  obtain ⟨comp, c, k, h1, -, h3, h4, h5⟩ := Cond.arrayOver_spec h
  exact ⟨c, fun n z => ⟨(fun k h => by cases h), k, h3, comp, h4⟩, k, comp, h3, h4, h1, h5⟩
theorem six_at {P : Nat → ClassId × FieldType → Prop} {x0 x1 x2 x3 x4 x5 : ClassId × FieldType} (h0 : P 0 x0) (h1 : P 1 x1) (h2 : P 2 x2) (h3 : P 3 x3) (h4 : P 4 x4) (h5 : P 5 x5) : ∀ k q, ([x0, x1, x2, x3, x4, x5] : List (ClassId × FieldType))[k]? = some q → P k q := by
  intro k q h
  have h6 : k < 6 := (List.getElem?_eq_some_iff.mp h).1
  rcases (show k = 0 ∨ k = 1 ∨ k = 2 ∨ k = 3 ∨ k = 4 ∨ k = 5 by omega) with rfl | rfl | rfl | rfl | rfl | rfl <;> cases h <;> assumption
theorem seven_at {P : Nat → vw_C → Prop} {x0 x1 x2 x3 x4 x5 : vw_C} (h0 : P 0 x0) (h1 : P 1 x1) (h2 : P 2 x2) (h3 : P 3 x3) (h4 : P 4 x4) (h5 : P 5 x5) : ∀ k q, ([x0, x1, x2, x3, x4, x5] : List vw_C)[k]? = some q → P k q := by
  intro k q h
  have h7 : k < 6 := (List.getElem?_eq_some_iff.mp h).1
  rcases (show k = 0 ∨ k = 1 ∨ k = 2 ∨ k = 3 ∨ k = 4 ∨ k = 5 by omega) with rfl | rfl | rfl | rfl | rfl | rfl <;> cases h <;> assumption
theorem entry_K {b : Nat} {s : State} (hts : ∀ w ∈ lw_tbl, w.before #[Value.ref b] s = true) : ∃ (D : va_G) (ct : Nat → ClassId), va_K D vwCl (fTys ct) s := by
  have htg : ∀ w ∈ wB, w.before #[Value.ref b] s = true := fun w h => hts w (wB_tbl h)
  obtain ⟨c0, i0, k0⟩ := u_known (n := 6) htg inB_X0 (hts _ (by decide +kernel))
  obtain ⟨c1, i1, k1⟩ := u_known (n := 3) htg inB_X1 (hts _ (by decide +kernel))
  obtain ⟨c2, i2, k2⟩ := u_known (n := 8) htg inB_X2 (hts _ (by decide +kernel))
  obtain ⟨c3, i3, k3⟩ := u_known (n := 5) htg inB_X3 (hts _ (by decide +kernel))
  obtain ⟨c4, i4, k4⟩ := u_known (n := 9) htg inB_X4 (hts _ (by decide +kernel))
  obtain ⟨c5, i5, k5⟩ := u_known (n := 6) htg inB_X5 (hts _ (by decide +kernel))
  obtain ⟨a0, q0⟩ := ak_p (ty := .int) (hts _ (by decide +kernel)) (fun _ h => by cases h)
  obtain ⟨a1, q1⟩ := ak_p (ty := .boolean) (hts _ (by decide +kernel)) (fun _ h => by cases h)
  obtain ⟨a2, q2⟩ := ak_p (ty := .char) (hts _ (by decide +kernel)) (fun _ h => by cases h)
  obtain ⟨a3, q3⟩ := ak_o (C := RX4) (hts _ (by decide +kernel))
  obtain ⟨a4, q4⟩ := ak_o (C := RX0) (hts _ (by decide +kernel))
  obtain ⟨a5, q5⟩ := ak_o (C := RX2) (hts _ (by decide +kernel))
  refine ⟨(fun c => match c with | 0 => c0 | 1 => c1 | 2 => c2 | 3 => c3 | 4 => c4 | _ => c5, fun c => match c with | 0 => i0 | 1 => i1 | 2 => i2 | 3 => i3 | 4 => i4 | _ => i5), (fun k => match k with | 0 => a0 | 1 => a1 | 2 => a2 | 3 => a3 | 4 => a4 | _ => a5), ?_, ?_⟩
  · exact seven_at (P := fun c q => u_Kn s q.1 q.2.1 q.2.2 _ _) k0 k1 k2 k3 k4 k5
  · exact six_at (P := fun _ q => ArrOfT s q.1 q.2 ∧ va_RA s q.1 q.2) q0 q1 q2 q3 q4 q5
def fiV (j : Nat) : Int32 := if j = 0 then nI 2 else if j = 1 then nI 0 else nI 3
/-- a static row of three numbers -/
theorem row3 {args : Array Value} {s : State} {tm : Term} {f : Nat → Int32} (h1 : (Cond.arrayOf tm .int).before args s = true) (h3 : (Cond.eq (.length tm) (.int 3)).before args s = true) (e0 : (Cond.eq (.elem tm (.int 0)) (.int (f 0))).before args s = true) (e1 : (Cond.eq (.elem tm (.int 1)) (.int (f 1))).before args s = true) (e2 : (Cond.eq (.elem tm (.int 2)) (.int (f 2))).before args s = true) : ∃ t : Nat, tm.eval args s none [] s = some (.ref t) ∧ va_T .int t 3 (fun j => .int (f j)) (lA s) s s.heap :=
  va_Tof (by decide) h1 (va_eqt h3) (fun j hj => by
    rcases (show j = 0 ∨ j = 1 ∨ j = 2 by omega) with rfl | rfl | rfl
    · exact va_eqt e0
    · exact va_eqt e1
    · exact va_eqt e2) (fun a ha => Nat.not_le.mpr ha)
theorem row3_size {args : Array Value} {s : State} {tm : Term} {t : Nat} {cell : Cell} (h3 : (Cond.eq (.length tm) (.int 3)).before args s = true) (ht : tm.eval args s none [] s = some (.ref t)) (hc : s.heap[t]? = some cell) : cell.slots.size = 3 := by
  have hv := va_eqt h3
  obtain ⟨b, cell2, ht2, harr, hv2⟩ := Term.length_spec hv
  cases ht.symm.trans ht2
  obtain ⟨hcell, -, -, -⟩ := State.arrayAt?_spec harr
  cases hc.symm.trans hcell
  have hsz : cell.slots.size < 2 ^ 31 := by
    simp only [Term.eval, ht, harr, Option.bind_eq_bind, Option.bind_some] at hv
    by_cases hlt : cell.slots.size < 2147483648
    · exact hlt
    · simp [hlt] at hv
  have e9 : nI 3 = nI cell.slots.size := Value.int.inj hv2
  exact (nI_j (by decide) (by omega) e9).symm
theorem entry_E {b : Nat} {s : State} (hts : ∀ w ∈ lw_tbl, w.before #[Value.ref b] s = true) (hgv : (Jvm.Cond.and given_1 narrow_1).before #[Value.ref b] s = true) : gE (lA s) s s.heap ∧ kE (lA s) s s.heap := by
  have hs := flat_of_before _ hgv
  have hA : ∀ a : Nat, a < s.heap.size → ¬ lA s a := fun a ha => Nat.not_le.mpr ha
  have hi5 : (Cond.initialized RX5).before #[Value.ref b] s = true := hts _ (by decide +kernel)
  obtain ⟨tl, el, Tl⟩ := row3 (s := s) (args := #[Value.ref b]) (tm := .static RX5 "LEAST_VALUES" "[I") (f := leV) (hs _ (by decide +kernel)) (hs _ (by decide +kernel)) (hs _ (by decide +kernel)) (hs _ (by decide +kernel)) (hs _ (by decide +kernel))
  obtain ⟨tm, em, Tm⟩ := row3 (s := s) (args := #[Value.ref b]) (tm := .static RX5 "MOST_VALUES" "[I") (f := moV) (hs _ (by decide +kernel)) (hs _ (by decide +kernel)) (hs _ (by decide +kernel)) (hs _ (by decide +kernel)) (hs _ (by decide +kernel))
  have hl3 : (Cond.eq (.length (.static RX5 "FIRST_VALUES" "[I")) (.int 3)).before #[Value.ref b] s = true := hs _ (by decide +kernel)
  obtain ⟨tf, ef, Tf⟩ := row3 (s := s) (args := #[Value.ref b]) (tm := .static RX5 "FIRST_VALUES" "[I") (f := fiV) (hs _ (by decide +kernel)) hl3 (hs _ (by decide +kernel)) (hs _ (by decide +kernel)) (hs _ (by decide +kernel))
  obtain ⟨cell, f1, f2, f3, f4, f5, f6, f7⟩ := Tf
  have hsz := row3_size hl3 ef f1
  have hcls : s.vm.findClass "[I" = some cell.cls := by
    obtain ⟨a, c, cell2, k, g1, g2, g3, -, -, g6, -⟩ := Cond.exactly_spec (args := #[Value.ref b]) (first := s) (o := none) (idx := []) (s := s) (t := .static RX5 "FIRST_VALUES" "[I") (cls := "[I") (hs _ (by decide +kernel))
    cases ef.symm.trans g1
    cases f1.symm.trans g3
    rw [g6]; exact g2
  have hsl : cell.slots = #[.int (nI 2), .int (nI 0), .int (nI 3)] := by
    apply Array.ext_getElem?
    intro i
    by_cases c : i < 3
    · rw [f6 i c]
      rcases (show i = 0 ∨ i = 1 ∨ i = 2 by omega) with rfl | rfl | rfl <;> rfl
    · rw [Array.getElem?_eq_none (by omega), Array.getElem?_eq_none (by show 3 ≤ i; omega)]
  exact ⟨⟨⟨tl, va_Zref (hts _ (by decide +kernel)) hi5 el hA, Tl⟩, tm, va_Zref (hts _ (by decide +kernel)) hi5 em hA, Tm⟩, ⟨tf, cell, va_Zref (hts _ (by decide +kernel)) hi5 ef hA, f1, f2, f3, hcls, hsl, f7⟩, va_Nw.of rfl (hts _ (by decide +kernel)), va_Nw.of rfl (hts _ (by decide +kernel)), va_AO.of (hts _ (by decide +kernel)), va_AO.of (hts _ (by decide +kernel)), va_AO.of (hts _ (by decide +kernel)), va_Nw.of rfl (hts _ (by decide +kernel)), va_Nw.of rfl (hts _ (by decide +kernel)), va_Nw.of rfl (hts _ (by decide +kernel))⟩
