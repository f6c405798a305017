/-! THE START, numbers -/
theorem sh_eq {d : UInt64} (h : shOk d) : FP.dcmp d d = some .eq := by
  rcases h with rfl | ⟨c, k, h⟩
  · decide +kernel
  · show Jvm.FP.Core.order (Jvm.FP.Core.val64 d) (Jvm.FP.Core.val64 d) = _
    rw [h.1]
    show some (compare (((c * 2 ^ _ : Nat)) : Int) (((c * 2 ^ _ : Nat)) : Int)) = _
    exact congrArg some (Int.compare_eq_eq.mpr rfl)
/-- the start -/
theorem iM_eq : ∀ z, z < 39 → iM z = iZ z := by decide +kernel
theorem iZ_on : ∀ b, b < 4 → iZ (7 + 5 * b + 1) = nI 1 ∧ iZ (7 + 5 * b + 2) = 0 ∧ iZ (7 + 5 * b + 0) = nI 200 ∧ iZ (7 + 5 * b + 3) = 0 := by decide +kernel
theorem iZ_ov : ∀ q, q < 12 → iZ (27 + q) = 0 := by decide +kernel
theorem iZ_rI : rI iZ 0 := by
  refine ⟨⟨by omega, fun i hi => ⟨?_, ?_, ?_, fun k hk => absurd hk (by omega), fun k hk => absurd hk (by omega), fun k hk => absurd hk (by omega), fun k hk => absurd hk (by omega), fun b hb e => ?_, fun b hb e => ?_, fun b hb e => ?_, fun q hq e => ?_⟩⟩, fun b hb _ => ⟨0, by omega, by rw [(iZ_on b hb).2.1]; decide⟩, fun i j hi => absurd hi (by omega), 0, by omega, by decide +kernel, ⟨0, by omega, by decide +kernel⟩, fun k hk => absurd hk (by omega), fun b hb => ⟨0, by omega, by rw [(iZ_on b hb).2.2.2]; decide⟩⟩
  · rintro rfl; exact ⟨2, by omega, by omega, by decide +kernel⟩
  · rintro rfl; decide +kernel
  · rintro rfl; exact Or.inl (by decide +kernel)
  · subst e; exact ⟨200, by omega, by omega, (iZ_on b hb).2.2.1⟩
  · subst e; exact Or.inr (by rw [(iZ_on b hb).1]; decide)
  · subst e; exact ⟨0, by omega, by rw [(iZ_on b hb).2.1]; decide⟩
  · subst e; exact Or.inl (iZ_ov q hq)
