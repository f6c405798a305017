/-! THE CLAIM OUT OF ONE WALK OF THE LAW'S BODY. Your part is whole_start (and what it stands on); all else here is the same for every law, but numbers. -/
theorem csc_at {D : va_G} {ct : Nat → ClassId} {ad ad2 : Nat → Nat} {Ms : Nat → Nat → Int32} {kp B A : Nat → Int32} {nx sz ln a kd : Int32} {H : Heap} {i x : Nat} (h : ∀ j, j < 198 → ad2 j = ad j) (hi : i < 198) (hat : va_at D vwCl (x, csc ct ad Ms kp nx sz B A ln a kd i) H) : va_at D vwCl (x, csc ct ad2 Ms kp nx sz B A ln a kd i) H := by
  by_cases c8 : i < 8
  · rcases (show i = 0 ∨ i = 1 ∨ i = 2 ∨ i = 3 ∨ i = 4 ∨ i = 5 ∨ i = 6 ∨ i = 7 by omega) with rfl | rfl | rfl | rfl | rfl | rfl | rfl | rfl
    · have e : csc ct ad2 Ms kp nx sz B A ln a kd 0 = csc ct ad Ms kp nx sz B A ln a kd 0 := by
        show (Sum.inr (5, csF ad2) : va_E) = Sum.inr (5, csF ad)
        unfold csF
        rw [h 8 (by omega), h 27 (by omega), h 1 (by omega), h 2 (by omega), h 3 (by omega), h 5 (by omega)]
      rw [e]; exact hat
    · have e : H[x]? = some (vp_cell (ct 5) (2, .inr (.inr (.inr (.inr fun k => some (ad (8 + 19 * (2 + k)))))))) := hat
      show H[x]? = some (vp_cell (ct 5) (2, .inr (.inr (.inr (.inr fun k => some (ad2 (8 + 19 * (2 + k))))))))
      rw [e, vp_q]
      intro k hk
      rw [h _ (by omega)]
    · exact hat
    · have e : csc ct ad2 Ms kp nx sz B A ln a kd 3 = csc ct ad Ms kp nx sz B A ln a kd 3 := by
        show (Sum.inr (1, [Value.ref (ad2 4), Value.int nx, Value.int sz]) : va_E) = Sum.inr (1, [Value.ref (ad 4), Value.int nx, Value.int sz])
        rw [h 4 (by omega)]
      rw [e]; exact hat
    · have e : H[x]? = some (vp_cell (ct 5) (6, .inr (.inr (.inr (.inr fun k => some (ad (8 + 19 * (4 + k)))))))) := hat
      show H[x]? = some (vp_cell (ct 5) (6, .inr (.inr (.inr (.inr fun k => some (ad2 (8 + 19 * (4 + k))))))))
      rw [e, vp_q]
      intro k hk
      rw [h _ (by omega)]
    · have e : csc ct ad2 Ms kp nx sz B A ln a kd 5 = csc ct ad Ms kp nx sz B A ln a kd 5 := by
        show (Sum.inr (3, cpF ad2 ln a kd) : va_E) = Sum.inr (3, cpF ad ln a kd)
        unfold cpF
        rw [h 6 (by omega), h 7 (by omega)]
      rw [e]; exact hat
    · exact hat
    · exact hat
  · obtain ⟨r, z, hz, rfl⟩ : ∃ r z, z < 19 ∧ i = 8 + 19 * r + z := ⟨(i - 8) / 19, (i - 8) % 19, by omega, by omega⟩
    rw [csc_m (M := Ms r) hz rfl rfl] at hat ⊢
    rw [mkc_ad (ad := fun z => ad2 (8 + 19 * r + z)) (ad' := fun z => ad (8 + 19 * r + z)) (fun y hy => by show ad2 (8 + 19 * r + y) = ad (8 + 19 * r + y); rw [h _ (by omega)])]
    exact hat
