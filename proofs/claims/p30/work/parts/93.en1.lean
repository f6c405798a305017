/-! THE ENTRY: classes, arrays, statics, texts -/
theorem ak_p {args : Array Value} {s : State} {ty : FieldType} (h : (Cond.arrayClass ty).before args s = true) (hn : ∀ C, ty ≠ .object C) : ∃ cA, ArrOfT s cA ty ∧ va_RA s cA ty := by
  obtain ⟨c, k, comp, h1, h2, h3⟩ := Cond.arrayClass_spec h
  refine ⟨c, fun n z => ⟨(fun k h => by cases h), k, h2, comp, h3⟩, ?_⟩
  cases ty <;> first | exact h1 | exact absurd rfl (hn _)
theorem ak_o {args : Array Value} {s : State} {C : String} (h : (Cond.arrayOver (.object C)).before args s = true) : ∃ cA, ArrOfT s cA (.object C) ∧ va_RA s cA (.object C) := by
  obtain ⟨comp, c, k, h1, -, h3, h4, h5⟩ := Cond.arrayOver_spec h
  exact ⟨c, fun n z => ⟨(fun k h => by cases h), k, h3, comp, h4⟩, k, comp, h3, h4, h1, h5⟩
theorem six_at {P : Nat → ClassId × FieldType → Prop} {x0 x1 x2 x3 x4 x5 : ClassId × FieldType} (h0 : P 0 x0) (h1 : P 1 x1) (h2 : P 2 x2) (h3 : P 3 x3) (h4 : P 4 x4) (h5 : P 5 x5) : ∀ k q, ([x0, x1, x2, x3, x4, x5] : List (ClassId × FieldType))[k]? = some q → P k q := by
  intro k q h
  have h6 : k < 6 := (List.getElem?_eq_some_iff.mp h).1
  rcases (show k = 0 ∨ k = 1 ∨ k = 2 ∨ k = 3 ∨ k = 4 ∨ k = 5 by omega) with rfl | rfl | rfl | rfl | rfl | rfl <;> cases h <;> assumption
theorem seven_at {P : Nat → vw_C → Prop} {x0 x1 x2 x3 x4 x5 x6 : vw_C} (h0 : P 0 x0) (h1 : P 1 x1) (h2 : P 2 x2) (h3 : P 3 x3) (h4 : P 4 x4) (h5 : P 5 x5) (h6 : P 6 x6) : ∀ k q, ([x0, x1, x2, x3, x4, x5, x6] : List vw_C)[k]? = some q → P k q := by
  intro k q h
  have h7 : k < 7 := (List.getElem?_eq_some_iff.mp h).1
  rcases (show k = 0 ∨ k = 1 ∨ k = 2 ∨ k = 3 ∨ k = 4 ∨ k = 5 ∨ k = 6 by omega) with rfl | rfl | rfl | rfl | rfl | rfl | rfl <;> cases h <;> assumption
theorem entry_K {b : Nat} {s : State} (hts : ∀ w ∈ lw_tbl, w.before #[Value.ref b] s = true) : ∃ (D : va_G) (ct : Nat → ClassId), va_K D vwCl (fTys ct) s := by
  have htg : ∀ w ∈ wB, w.before #[Value.ref b] s = true := fun w h => hts w (wB_tbl h)
  obtain ⟨c0, i0, k0⟩ := u_known (n := 6) htg inB_X0 (hts _ (by decide +kernel))
  obtain ⟨c1, i1, k1⟩ := u_known (n := 3) htg inB_X1 (hts _ (by decide +kernel))
  obtain ⟨c2, i2, k2⟩ := u_known (n := 8) htg inB_X2 (hts _ (by decide +kernel))
  obtain ⟨c3, i3, k3⟩ := u_known (n := 5) htg inB_X3 (hts _ (by decide +kernel))
  obtain ⟨c4, i4, k4⟩ := u_known (n := 9) htg inB_X4 (hts _ (by decide +kernel))
  obtain ⟨c5, i5, k5⟩ := u_known (n := 6) htg inB_X5 (hts _ (by decide +kernel))
  obtain ⟨c6, i6, k6⟩ := u_known (n := 14) htg inB_X6 (hts _ (by decide +kernel))
  obtain ⟨a0, q0⟩ := ak_p (ty := .int) (hts _ (by decide +kernel)) (fun _ h => by cases h)
  obtain ⟨a1, q1⟩ := ak_p (ty := .boolean) (hts _ (by decide +kernel)) (fun _ h => by cases h)
  obtain ⟨a2, q2⟩ := ak_p (ty := .char) (hts _ (by decide +kernel)) (fun _ h => by cases h)
  obtain ⟨a3, q3⟩ := ak_o (C := RX4) (hts _ (by decide +kernel))
  obtain ⟨a4, q4⟩ := ak_o (C := RX0) (hts _ (by decide +kernel))
  obtain ⟨a5, q5⟩ := ak_o (C := RX2) (hts _ (by decide +kernel))
  refine ⟨(fun c => match c with | 0 => c0 | 1 => c1 | 2 => c2 | 3 => c3 | 4 => c4 | 5 => c5 | _ => c6, fun c => match c with | 0 => i0 | 1 => i1 | 2 => i2 | 3 => i3 | 4 => i4 | 5 => i5 | _ => i6), (fun k => match k with | 0 => a0 | 1 => a1 | 2 => a2 | 3 => a3 | 4 => a4 | _ => a5), ?_, ?_⟩
  · exact seven_at (P := fun c q => u_Kn s q.1 q.2.1 q.2.2 _ _) k0 k1 k2 k3 k4 k5 k6
  · exact six_at (P := fun _ q => ArrOfT s q.1 q.2 ∧ va_RA s q.1 q.2) q0 q1 q2 q3 q4 q5
