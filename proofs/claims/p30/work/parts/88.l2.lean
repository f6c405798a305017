/-! THE LAW: an hour -/
theorem lG_of {r : Int32} {Z Y : Nat → Int32} {n : Nat} (h : lG r Z n) (hz : zW Y n) (he : ∀ z, z < 39 + 8 * n → (z = 3 ∨ (27 ≤ z ∧ z < 39) ∨ ∃ k, k < n ∧ (z = 39 + 8 * k + 1 ∨ z = 39 + 8 * k + 2)) → Y z = Z z) : lG r Y n := by
  refine ⟨hz, fun q hq => ?_, ?_, fun k hk => ?_⟩
  · rw [he (27 + q) (by omega) (Or.inr (Or.inl (by omega)))]; exact h.2.1 q hq
  · rw [he 3 (by omega) (Or.inl rfl)]; exact h.2.2.1
  · rw [he (39 + 8 * k + 1) (by omega) (Or.inr (Or.inr ⟨k, hk, Or.inl rfl⟩)), he (39 + 8 * k + 2) (by omega) (Or.inr (Or.inr ⟨k, hk, Or.inr rfl⟩))]; exact h.2.2.2 k hk
theorem shdS_lG {r : Int32} {Z : Nat → Int32} {n i : Nat} (h : lG r Z n) (hi : i ≤ 4) : lG r (shdS Z n i) n :=
  lG_of h (shdS_zW h.1 i) (fun z _ hz => shdS_at h.1 (by rcases hz with h | h | ⟨k, hk, h | h⟩ <;> omega) (fun k hk => by rcases hz with h | h | ⟨k, hk, h | h⟩ <;> omega) i hi)
theorem warmS_lG {r : Int32} {Z : Nat → Int32} {n i : Nat} (h : lG r Z n) (hi : i ≤ 4) : lG r (warmS Z n i) n :=
  lG_of h (warmS_zW h.1 i hi) (fun z _ hz => warm_at (fun c hc => by rcases hz with h | h | ⟨k, hk, h | h⟩ <;> omega) i hi)
theorem metS_lG {r : Int32} {Z : Nat → Int32} {n i : Nat} (h : lG r Z n) : lG r (metS Z i) n :=
  lG_of h (metS_zW h.1 i) (fun z _ hz => met_at (by rcases hz with h | h | ⟨k, hk, h | h⟩ <;> omega) (fun k => by rcases hz with h | h | ⟨k, hk, h | h⟩ <;> omega) i)
theorem shS_lG {r : Int32} {Z : Nat → Int32} {n b : Nat} (h : lG r Z n) : lG r (shS Z b n) n :=
  lG_upd (lG_upd h (by omega) (by omega) (fun _ _ => ⟨by omega, by omega, by omega⟩) (fun _ _ => by omega) (fun _ _ => by omega)) (by omega) (by omega) (fun _ _ => ⟨by omega, by omega, by omega⟩) (fun _ _ => by omega) (fun _ _ => by omega)
/-- the worth of a stall for shedding; that of the first -/
def wor (Z : Nat → Int32) (k : Nat) : Int32 := nI 1000 * Z (39 + 8 * k + 3) + Z (39 + 8 * k + 0)
def moL (Z : Nat → Int32) (b i : Nat) : Int32 := if ftn Z b i = 10 then -1 else wor Z (ftn Z b i)
theorem wor_n {Z : Nat → Int32} {n k : Nat} (hO : oI Z n) (hk : k < n) : ∃ a c, 1 ≤ a ∧ a ≤ 500 ∧ 1 ≤ c ∧ c ≤ 9 ∧ Z (39 + 8 * k + 0) = nI a ∧ Z (39 + 8 * k + 3) = nI c ∧ wor Z k = nI (1000 * c + a) := by
  obtain ⟨a, a1, a2, a3⟩ := oI_load hO hk
  obtain ⟨c, c1, c2, c3⟩ := oI_rank hO hk
  refine ⟨a, c, a1, a2, c1, c2, a3, c3, ?_⟩
  unfold wor
  rw [a3, c3, pk_mul, nI_add]
theorem wor_gof {Z : Nat → Int32} {n k j : Nat} (hO : oI Z n) (hk : k < n) (hj : j < n) : (wor Z j < wor Z k) ↔ gofB Z k j = true := by
  obtain ⟨a, c, a1, a2, c1, c2, a3, c3, e⟩ := wor_n hO hk
  obtain ⟨a', c', a1', a2', c1', c2', a3', c3', e'⟩ := wor_n hO hj
  unfold gofB
  rw [e, e', a3, c3, a3', c3', nI_ltI (by omega) (by omega)]
  have p1 : (nI c' < nI c) = (c' < c) := propext (nI_ltI (by omega) (by omega))
  have p2 : (nI a' < nI a) = (a' < a) := propext (nI_ltI (by omega) (by omega))
  have p3 : (nI c = nI c') = (c = c') := propext (nI_eq (by omega) (by omega))
  simp only [p1, p2, p3]
  simp only [Bool.or_eq_true, Bool.and_eq_true, decide_eq_true_eq]
  omega
theorem ft_no {Z : Nat → Int32} {b j : Nat} (h : drwB Z j b = false) : ox (ftn Z b (j + 1)) = ox (ftn Z b j) ∧ moL Z b (j + 1) = moL Z b j := by
  unfold moL; rw [ftn_no h]; exact ⟨rfl, rfl⟩
theorem ft_yes {Z : Nat → Int32} {n b j : Nat} (hO : oI Z n) (hj : j < n) (hd : drwB Z j b = true) (hw : moL Z b j < wor Z j) : ox (ftn Z b (j + 1)) = nI j ∧ moL Z b (j + 1) = wor Z j := by
  have h10 := hO.1
  have e : ftn Z b (j + 1) = j := by
    by_cases q : ftn Z b j = 10
    · exact ftn_first hd q
    · have hl : ftn Z b j < j := by rcases ftn_lt Z b j with h | h; exact absurd h q; exact h
      unfold moL at hw; rw [if_neg q] at hw
      exact ftn_better hd ((wor_gof hO hj (by omega)).mp hw)
  unfold moL; rw [e, ox_n (by omega), if_neg (by omega)]; exact ⟨rfl, rfl⟩
theorem ft_not {Z : Nat → Int32} {n b j : Nat} (hO : oI Z n) (hj : j < n) (hw : ¬ moL Z b j < wor Z j) : ox (ftn Z b (j + 1)) = ox (ftn Z b j) ∧ moL Z b (j + 1) = moL Z b j := by
  have h10 := hO.1
  have q : ftn Z b j ≠ 10 := fun q => hw (by
    unfold moL; rw [if_pos q]
    obtain ⟨a, c, a1, a2, c1, c2, a3, c3, e⟩ := wor_n hO hj
    rw [e]
    rw [Int32.lt_iff_toInt_lt, nI_toInt (by omega), show (-1 : Int32).toInt = -1 by decide]
    omega)
  have hl : ftn Z b j < j := by rcases ftn_lt Z b j with h | h; exact absurd h q; exact h
  have e : ftn Z b (j + 1) = ftn Z b j := by
    refine ftn_worse q ?_
    cases hg : gofB Z j (ftn Z b j)
    · rfl
    · exact absurd (by unfold moL; rw [if_neg q]; exact (wor_gof hO hj (by omega)).mpr hg) hw
  unfold moL; rw [e]; exact ⟨rfl, rfl⟩
/-- the heat -/
theorem pos_iff {W : Nat → Int32} {n b : Nat} (hO : oI W n) (hb : b < 4) : (0 < carS W b n - W (7 + 5 * b + 0)) ↔ W (7 + 5 * b + 0) < carS W b n := by
  obtain ⟨d, d1, d2, d3⟩ := oI_bound hO hb
  obtain ⟨c, c1, c2⟩ := car_n hO b n (Nat.le_refl n)
  have h10 := hO.1
  rw [d3, c2, nI_ltI (by omega) (by omega), ← nI_0]
  by_cases q : d < c
  · rw [nI_sb (by omega)]
    exact ⟨fun _ => q, fun _ => (nI_ltI (by omega) (by omega)).mpr (by omega)⟩
  · exact ⟨fun h => absurd h (nI_neg (by omega) (by omega)), fun h => absurd h q⟩
theorem ht_hot {W : Nat → Int32} {n b : Nat} (hO : oI W n) (hb : b < 4) (h1 : W (7 + 5 * b + 1) = nI 1) (h2 : W (7 + 5 * b + 0) < carS W b n) : W (7 + 5 * b + 2) + (carS W b n - W (7 + 5 * b + 0)) / nI 10 + nI 1 = htZ W b n := by
  unfold htZ; rw [if_pos ⟨h1, (pos_iff hO hb).mpr h2⟩]
theorem ht_cl {W : Nat → Int32} {n b : Nat} (hO : oI W n) (hb : b < 4) (hn : ¬ W (7 + 5 * b + 1) = nI 1 ∨ ¬ W (7 + 5 * b + 0) < carS W b n) : htZ W b n = if W 0 < W (7 + 5 * b + 2) then W (7 + 5 * b + 2) - W 0 else nI 0 := by
  unfold htZ
  rw [if_neg (fun h => by rcases hn with q | q; exact q h.1; exact q ((pos_iff hO hb).mp h.2))]
  obtain ⟨a, a1, a2⟩ := oI_heat hO hb
  obtain ⟨c, c1, c2, c3⟩ := oI_cool hO
  rw [a2, c3]
  by_cases q : a < c
  · rw [if_pos ((nI_ltI (by omega) (by omega)).mpr q), if_neg (fun h => by rw [nI_ltI (by omega) (by omega)] at h; omega)]
  · rw [if_neg (fun h => q ((nI_ltI (by omega) (by omega)).mp h))]
    by_cases q2 : c < a
    · rw [if_pos ((nI_ltI (by omega) (by omega)).mpr q2)]
    · rw [if_neg (fun h => q2 ((nI_ltI (by omega) (by omega)).mp h)), nI_sb (by omega), show a - c = 0 by omega]
theorem wm_law {W : Nat → Int32} {n b : Nat} {v : Int32} (hw : zW W n) (hb : b < 4) (hv : v = htZ W b n) : upd (upd W (7 + 5 * b + 2) v) (7 + 5 * b + 4) ((upd W (7 + 5 * b + 2) v) (7 + 5 * b + 4) + carS W b n) = warmZ W b n := by
  subst hv
  have e : carS (wr1 W b n) b n = carS W b n := car_same hw (fun z _ _ _ h4 => upd_n (h4 b hb).1)
  unfold warmZ; rw [e]; rfl
theorem ge10 {v : Int32} : (nI 9 < v) ↔ ¬ v < nI 10 := by
  rw [Int32.lt_iff_toInt_lt, Int32.lt_iff_toInt_lt, nI_toInt (by omega), nI_toInt (by omega)]; omega
theorem tz_yes {W : Nat → Int32} {i : Nat} (h1 : tripZ W i (7 + 5 * i + 1) = nI 1) (h2 : ¬ tripZ W i (7 + 5 * i + 2) < nI 10) : upd (upd (tripZ W i) (7 + 5 * i + 1) (nI 0)) (7 + 5 * i + 3) ((upd (tripZ W i) (7 + 5 * i + 1) (nI 0)) (7 + 5 * i + 3) + nI 1) = tripZ W (i + 1) ∧ tripT W i + nI 1 = tripT W (i + 1) := by
  have hc : trC (tripZ W i) i = true := by unfold trC; rw [decide_eq_true h1, decide_eq_true (ge10.mpr h2)]; rfl
  exact ⟨(if_pos hc).symm, (if_pos hc).symm⟩
theorem tz_no {W : Nat → Int32} {i : Nat} (h : ¬ tripZ W i (7 + 5 * i + 1) = nI 1 ∨ tripZ W i (7 + 5 * i + 2) < nI 10) : upd (upd (tripZ W i) (7 + 5 * i + 1) (tripZ W i (7 + 5 * i + 1))) (7 + 5 * i + 3) ((upd (tripZ W i) (7 + 5 * i + 1) (tripZ W i (7 + 5 * i + 1))) (7 + 5 * i + 3) + nI 0) = tripZ W (i + 1) ∧ tripT W i + nI 0 = tripT W (i + 1) := by
  have hc : ¬ trC (tripZ W i) i = true := by
    unfold trC; rw [Bool.and_eq_true, decide_eq_true_eq, decide_eq_true_eq, ge10]
    rintro ⟨q1, q2⟩
    rcases h with h | h
    · exact h q1
    · exact q2 h
  refine ⟨?_, ?_⟩
  · rw [show tripZ W (i + 1) = tripZ W i from if_neg hc]
    funext z
    by_cases e3 : z = 7 + 5 * i + 3
    · subst e3; rw [upd_s, upd_n (by omega), nI_0, Int32.add_zero]
    · rw [upd_n e3]
      by_cases e1 : z = 7 + 5 * i + 1
      · subst e1; rw [upd_s]
      · rw [upd_n e1]
  · rw [show tripT W (i + 1) = tripT W i from if_neg hc, nI_0, Int32.add_zero]
set_option maxRecDepth 100000 in
set_option maxHeartbeats 4000000 in
theorem mL_hour (l : Launch) (D : va_G) (ct : Nat → ClassId) (ad : Nat → Nat) (Z : Nat → Int32) (r : Int32)  (n : Nat) (hO : oI Z n) (ho : hOn Z) (hg : lG r Z n) : FMet l yL_hour cL_hour 11 (some .int) 3 73 D ct 5 ad [.ref (ad 0), .ref (ad 1), .ref (ad 2), .ref (ad 3), .ref (ad 4)] (lwc ct Z r) (some (.int (hrT Z n))) (lwc ct (hrZ Z n) r) := by
  refine FMet.of (by decide +kernel) (Nat.le_of_ble_eq_true rfl) ?_
  intro p e s m args below meth c ls hx hb hr hml hown hlocks htg hK hI hP hS hl
  have hl : lv_has ls 11 [(0, .ref (ad 0)), (1, .ref (ad 1)), (2, .ref (ad 2)), (3, .ref (ad 3)), (4, .ref (ad 4))] := hl
  have hn10 := hg.1.1
  refine lv_iconst (v := nI 0) hx hb dL_hour_0 (by decide) ?_
  refine lv_istore (lv' := [(5, .int (nI 0)), (0, .ref (ad 0)), (1, .ref (ad 1)), (2, .ref (ad 2)), (3, .ref (ad 3)), (4, .ref (ad 4))]) hx hb dL_hour_1 hl (by decide) rfl (fun ls hl => ?_)
  have lp3 : ∀ (fu3 : Nat) (i : Nat), i ≤ 4 → 4 - i < fu3 → ∀ (H : Heap) (locs : List Loc), fP D 5 ad (lwc ct (shdS Z n i) r) H → va_S (fA 5 ad) s.heap H locs → ∀ (ls : Array Slot), lv_has ls 11 [(5, .int (nI i)), (0, .ref (ad 0)), (1, .ref (ad 1)), (2, .ref (ad 2)), (3, .ref (ad 3)), (4, .ref (ad 4))] → W p l e ({ frames := 3, cells := 0, slots := 0, locals := 73 }) s m args below meth c H locs 0 0 (MQ below (fQ D ct 5 ad (some (.int (hrT Z n))) (lwc ct (hrZ Z n) r)) args s 0 0 (fA 5 ad)) (F0 m 3 ls []) := by
    intro fu3
    induction fu3 with
    | zero => intro i hi hfu3; exact absurd hfu3 (Nat.not_lt_zero _)
    | succ fu3 ih3 =>
      intro i hi hfu3 H locs hP hS ls hl
      refine lv_iload hx hb dL_hour_3 (lv_at hl 0 rfl) ?_
      refine lv_iconst (v := nI 4) hx hb dL_hour_5 (by decide) ?_
      refine lv_icmp_geN (tgt := 195) hx hb (by omega) (by omega) dL_hour_6 (by decide) (fun c6 => ?_) (fun c6 => ?_)
      · obtain rfl : i = 4 := by omega
        refine lv_iconst (v := nI 0) hx hb dL_hour_195 (by decide) ?_
        refine lv_istore (lv' := [(5, .int (nI 0)), (0, .ref (ad 0)), (1, .ref (ad 1)), (2, .ref (ad 2)), (3, .ref (ad 3)), (4, .ref (ad 4))]) hx hb dL_hour_196 hl (by decide) rfl (fun ls hl => ?_)
        have lp198 : ∀ (fu198 : Nat) (i : Nat), i ≤ 4 → 4 - i < fu198 → ∀ (H : Heap) (locs : List Loc), fP D 5 ad (lwc ct (warmS (shdS Z n 4) n i) r) H → va_S (fA 5 ad) s.heap H locs → ∀ (ls : Array Slot), lv_has ls 11 [(5, .int (nI i)), (0, .ref (ad 0)), (1, .ref (ad 1)), (2, .ref (ad 2)), (3, .ref (ad 3)), (4, .ref (ad 4))] → W p l e ({ frames := 3, cells := 0, slots := 0, locals := 73 }) s m args below meth c H locs 0 0 (MQ below (fQ D ct 5 ad (some (.int (hrT Z n))) (lwc ct (hrZ Z n) r)) args s 0 0 (fA 5 ad)) (F0 m 198 ls []) := by
          intro fu198
          induction fu198 with
          | zero => intro i hi hfu198; exact absurd hfu198 (Nat.not_lt_zero _)
          | succ fu198 ih198 =>
            intro i hi hfu198 H locs hP hS ls hl
            have hWO := warm_oI (shdS_oI hO 4) (shdS_hOn hg.1 ho) i hi
            refine lv_iload hx hb dL_hour_198 (lv_at hl 0 rfl) ?_
            refine lv_iconst (v := nI 4) hx hb dL_hour_200 (by decide) ?_
            refine lv_icmp_geN (tgt := 340) hx hb (by omega) (by omega) dL_hour_201 (by decide) (fun c201 => ?_) (fun c201 => ?_)
            · obtain rfl : i = 4 := by omega
              refine lv_iconst (v := nI 0) hx hb dL_hour_340 (by decide) ?_
              refine lv_istore (lv' := [(5, .int (nI 0)), (0, .ref (ad 0)), (1, .ref (ad 1)), (2, .ref (ad 2)), (3, .ref (ad 3)), (4, .ref (ad 4))]) hx hb dL_hour_341 hl (by decide) rfl (fun ls hl => ?_)
              have lp343 : ∀ (fu343 : Nat) (i : Nat), i ≤ n → n - i < fu343 → ∀ (H : Heap) (locs : List Loc), fP D 5 ad (lwc ct (metS (warmS (shdS Z n 4) n 4) i) r) H → va_S (fA 5 ad) s.heap H locs → ∀ (ls : Array Slot), lv_has ls 11 [(5, .int (nI i)), (0, .ref (ad 0)), (1, .ref (ad 1)), (2, .ref (ad 2)), (3, .ref (ad 3)), (4, .ref (ad 4))] → W p l e ({ frames := 3, cells := 0, slots := 0, locals := 73 }) s m args below meth c H locs 0 0 (MQ below (fQ D ct 5 ad (some (.int (hrT Z n))) (lwc ct (hrZ Z n) r)) args s 0 0 (fA 5 ad)) (F0 m 343 ls []) := by
                intro fu343
                induction fu343 with
                | zero => intro i hi hfu343; exact absurd hfu343 (Nat.not_lt_zero _)
                | succ fu343 ih343 =>
                  intro i hi hfu343 H locs hP hS ls hl
                  refine lv_iload hx hb dL_hour_343 (lv_at hl 0 rfl) ?_
                  refine lv_aload hx hb dL_hour_345 (lv_at hl 5 rfl) ?_
                  refine lv_iconst (v := nI 4) hx hb dL_hour_347 (by decide) ?_
                  refine lw_l4 hx hb hK hP (by omega) dL_hour_348 ?_
                  refine lv_teq (vwT_at (by omega)) ?_
                  refine lv_teq (metS_lG (warmS_lG (shdS_lG hg (by omega)) (by omega))).1.2.1 ?_
                  refine lv_icmp_geN (tgt := 435) hx hb (by omega) (by omega) dL_hour_349 (by decide) (fun c349 => ?_) (fun c349 => ?_)
                  · have e9 : n = i := by omega
                    subst e9
                    refine lv_iconst (v := nI 0) hx hb dL_hour_435 (by decide) ?_
                    refine lv_istore (lv' := [(5, .int (nI 0)), (0, .ref (ad 0)), (1, .ref (ad 1)), (2, .ref (ad 2)), (3, .ref (ad 3)), (4, .ref (ad 4))]) hx hb dL_hour_436 hl (by decide) rfl (fun ls hl => ?_)
                    refine lv_iconst (v := nI 0) hx hb dL_hour_438 (by decide) ?_
                    refine lv_istore (lv' := [(6, .int (nI 0)), (5, .int (nI 0)), (0, .ref (ad 0)), (1, .ref (ad 1)), (2, .ref (ad 2)), (3, .ref (ad 3)), (4, .ref (ad 4))]) hx hb dL_hour_439 hl (by decide) rfl (fun ls hl => ?_)
                    have lp441 : ∀ (fu441 : Nat) (i : Nat), i ≤ 4 → 4 - i < fu441 → ∀ (H : Heap) (locs : List Loc), fP D 5 ad (lwc ct (tripZ (hrA Z n) i) r) H → va_S (fA 5 ad) s.heap H locs → ∀ (ls : Array Slot), lv_has ls 11 [(6, .int (nI i)), (5, .int (tripT (hrA Z n) i)), (0, .ref (ad 0)), (1, .ref (ad 1)), (2, .ref (ad 2)), (3, .ref (ad 3)), (4, .ref (ad 4))] → W p l e ({ frames := 3, cells := 0, slots := 0, locals := 73 }) s m args below meth c H locs 0 0 (MQ below (fQ D ct 5 ad (some (.int (hrT Z n))) (lwc ct (hrZ Z n) r)) args s 0 0 (fA 5 ad)) (F0 m 441 ls []) := by
                      intro fu441
                      induction fu441 with
                      | zero => intro i hi hfu441; exact absurd hfu441 (Nat.not_lt_zero _)
                      | succ fu441 ih441 =>
                        intro i hi hfu441 H locs hP hS ls hl
                        refine lv_iload hx hb dL_hour_441 (lv_at hl 0 rfl) ?_
                        refine lv_iconst (v := nI 4) hx hb dL_hour_443 (by decide) ?_
                        refine lv_icmp_geN (tgt := 546) hx hb (by omega) (by omega) dL_hour_444 (by decide) (fun c444 => ?_) (fun c444 => ?_)
                        · obtain rfl : i = 4 := by omega
                          refine lv_aload hx hb dL_hour_546 (lv_at hl 6 rfl) ?_
                          refine lv_iconst (v := nI 3) hx hb dL_hour_548 (by decide) ?_
                          refine lv_dup2_11 hx hb dL_hour_549 rfl rfl ?_
                          refine lw_l4 hx hb hK hP (by omega) dL_hour_550 ?_
                          refine lv_teq (vwT_at (by omega)) ?_
                          refine lv_iconst (v := nI 1) hx hb dL_hour_551 (by decide) ?_
                          refine lv_iadd hx hb dL_hour_552 ?_
                          refine lw_sT (by omega) hx hb hK hP hI hS (fun _ h => fA_in h) dL_hour_553 (fun H locs hP hS => ?_)
                          refine lv_iload hx hb dL_hour_554 (lv_at hl 1 rfl) ?_
                          refine fr_iret hx hb hr hlocks hK hI hS rfl dL_hour_556 ?_ ?_
                          · rfl
                          · refine fP.eqc (congrArg (fun v9 => lwc ct v9 r) (show (hrZ Z n) = (upd (tripZ (hrA Z n) 4) (3) (((tripZ (hrA Z n) 4) 3) + (nI 1))) from by rfl).symm) ?_
                            exact hP
                        · refine lv_aload_n hx hb dL_hour_447 rfl (lv_at hl 4 rfl) ?_
                          refine lv_iconst (v := nI 5) hx hb dL_hour_448 (by decide) ?_
                          refine lv_iload hx hb dL_hour_449 (lv_at hl 0 rfl) ?_
                          refine lv_imulN hx hb dL_hour_451 ?_
                          refine lv_iconst (v := nI 1) hx hb dL_hour_452 (by decide) ?_
                          refine lv_iaddN hx hb dL_hour_453 ?_
                          refine lw_l2 hx hb hK hP (by omega) dL_hour_454 ?_
                          refine lv_teq (vwB_at (by omega) (by omega)) ?_
                          refine lv_iconst (v := nI 1) hx hb dL_hour_455 (by decide) ?_
                          refine lv_icmp_ne (tgt := 476) hx hb dL_hour_456 (by decide) (fun c456 => ?_) (fun c456 => ?_)
                          · refine lv_iconst (v := nI 0) hx hb dL_hour_476 (by decide) ?_
                            refine lv_istore (lv' := [(7, .int (nI 0)), (6, .int (nI i)), (5, .int (tripT (hrA Z n) i)), (0, .ref (ad 0)), (1, .ref (ad 1)), (2, .ref (ad 2)), (3, .ref (ad 3)), (4, .ref (ad 4))]) hx hb dL_hour_477 hl (by decide) rfl (fun ls hl => ?_)
                            refine lv_aload_n hx hb dL_hour_479 rfl (lv_at hl 5 rfl) ?_
                            refine lv_iconst (v := nI 5) hx hb dL_hour_480 (by decide) ?_
                            refine lv_iload hx hb dL_hour_481 (lv_at hl 1 rfl) ?_
                            refine lv_imulN hx hb dL_hour_483 ?_
                            refine lv_iconst (v := nI 1) hx hb dL_hour_484 (by decide) ?_
                            refine lv_iaddN hx hb dL_hour_485 ?_
                            refine lv_iload hx hb dL_hour_486 (lv_at hl 0 rfl) ?_
                            refine lv_if_eq (tgt := 495) hx hb dL_hour_488 (by decide) (fun _ => ?_) (fun h => absurd (by decide) h)
                            refine lv_aload_n hx hb dL_hour_495 rfl (lv_at hl 5 rfl) ?_
                            refine lv_iconst (v := nI 5) hx hb dL_hour_496 (by decide) ?_
                            refine lv_iload hx hb dL_hour_497 (lv_at hl 1 rfl) ?_
                            refine lv_imulN hx hb dL_hour_499 ?_
                            refine lv_iconst (v := nI 1) hx hb dL_hour_500 (by decide) ?_
                            refine lv_iaddN hx hb dL_hour_501 ?_
                            refine lw_l2 hx hb hK hP (by omega) dL_hour_502 ?_
                            refine lv_teq (vwB_at (by omega) (by omega)) ?_
                            refine lw_sB (by omega) (by omega) hx hb hK hP hI hS (fun _ h => fA_in h) dL_hour_503 (fun H locs hP hS => ?_)
                            refine lv_aload_n hx hb dL_hour_504 rfl (lv_at hl 5 rfl) ?_
                            refine lv_iconst (v := nI 5) hx hb dL_hour_505 (by decide) ?_
                            refine lv_iload hx hb dL_hour_506 (lv_at hl 1 rfl) ?_
                            refine lv_imulN hx hb dL_hour_508 ?_
                            refine lv_iconst (v := nI 3) hx hb dL_hour_509 (by decide) ?_
                            refine lv_iaddN hx hb dL_hour_510 ?_
                            refine lv_dup2_11 hx hb dL_hour_511 rfl rfl ?_
                            refine lw_l2 hx hb hK hP (by omega) dL_hour_512 ?_
                            refine lv_teq (vwB_at (by omega) (by omega)) ?_
                            refine lv_iload hx hb dL_hour_513 (lv_at hl 0 rfl) ?_
                            refine lv_if_eq (tgt := 522) hx hb dL_hour_515 (by decide) (fun _ => ?_) (fun h => absurd (by decide) h)
                            refine lv_iconst (v := nI 0) hx hb dL_hour_522 (by decide) ?_
                            refine lv_iadd hx hb dL_hour_523 ?_
                            refine lw_sB (by omega) (by omega) hx hb hK hP hI hS (fun _ h => fA_in h) dL_hour_524 (fun H locs hP hS => ?_)
                            refine lv_iload hx hb dL_hour_525 (lv_at hl 2 rfl) ?_
                            refine lv_iload hx hb dL_hour_527 (lv_at hl 0 rfl) ?_
                            refine lv_if_eq (tgt := 536) hx hb dL_hour_529 (by decide) (fun _ => ?_) (fun h => absurd (by decide) h)
                            refine lv_iconst (v := nI 0) hx hb dL_hour_536 (by decide) ?_
                            refine lv_iadd hx hb dL_hour_537 ?_
                            refine lv_istore (lv' := [(5, .int ((tripT (hrA Z n) i) + (nI 0))), (7, .int (nI 0)), (6, .int (nI i)), (0, .ref (ad 0)), (1, .ref (ad 1)), (2, .ref (ad 2)), (3, .ref (ad 3)), (4, .ref (ad 4))]) hx hb dL_hour_538 hl (by decide) rfl (fun ls hl => ?_)
                            refine lv_iinc (v := nI (i + 1)) (lv' := [(6, .int (nI (i + 1))), (5, .int ((tripT (hrA Z n) i) + (nI 0))), (7, .int (nI 0)), (0, .ref (ad 0)), (1, .ref (ad 1)), (2, .ref (ad 2)), (3, .ref (ad 3)), (4, .ref (ad 4))]) hx hb dL_hour_540 hl (k := 2) rfl (nI_add i 1) (by decide) rfl (fun ls hl => ?_)
                            refine lv_goto (tgt := 441) hx hb dL_hour_543 (by decide) ?_
                            have hl := lv_sub (l' := [(6, .int (nI (i + 1))), (5, .int ((tripT (hrA Z n) i) + (nI 0))), (0, .ref (ad 0)), (1, .ref (ad 1)), (2, .ref (ad 2)), (3, .ref (ad 3)), (4, .ref (ad 4))]) hl [0, 1, 3, 4, 5, 6, 7] rfl
                            have le5 : Value.int ((tripT (hrA Z n) i) + (nI 0)) = Value.int (tripT (hrA Z n) (i + 1)) := by first | exact congrArg Value.int (tz_yes c456 (Int32.not_lt.mpr c469)).2 | exact congrArg Value.int (tz_no (Or.inl c456)).2 | exact congrArg Value.int (tz_no (Or.inr c469)).2
                            have hl := lv_hasE hl (lcons rfl (lcons le5 (lcons rfl (lcons rfl (lcons rfl (lcons rfl (lcons rfl rfl)))))))
                            have hP := fP.eqc (congrArg (fun v9 => lwc ct v9 r) (show (upd (upd (tripZ (hrA Z n) i) (7 + 5 * i + 1) ((tripZ (hrA Z n) i) (7 + 5 * i + 1))) (7 + 5 * i + 3) (((upd (tripZ (hrA Z n) i) (7 + 5 * i + 1) ((tripZ (hrA Z n) i) (7 + 5 * i + 1))) (7 + 5 * i + 3)) + (nI 0))) = (tripZ (hrA Z n) (i + 1)) from by first | exact (tz_yes c456 (Int32.not_lt.mpr c469)).1 | exact (tz_no (Or.inl c456)).1 | exact (tz_no (Or.inr c469)).1)) hP
                            exact ih441 (i + 1) (by omega) (by omega) _ _ hP hS _ hl
                          · refine lv_aload_n hx hb dL_hour_459 rfl (lv_at hl 4 rfl) ?_
                            refine lv_iconst (v := nI 5) hx hb dL_hour_460 (by decide) ?_
                            refine lv_iload hx hb dL_hour_461 (lv_at hl 0 rfl) ?_
                            refine lv_imulN hx hb dL_hour_463 ?_
                            refine lv_iconst (v := nI 2) hx hb dL_hour_464 (by decide) ?_
                            refine lv_iaddN hx hb dL_hour_465 ?_
                            refine lw_l2 hx hb hK hP (by omega) dL_hour_466 ?_
                            refine lv_teq (vwB_at (by omega) (by omega)) ?_
                            refine lv_bipush (v := nI 10) hx hb dL_hour_467 (by decide) ?_
                            refine lv_icmp_ltR (tgt := 476) hx hb dL_hour_469 (by decide) (fun c469 => ?_) (fun c469 => ?_)
                            · refine lv_iconst (v := nI 0) hx hb dL_hour_476 (by decide) ?_
                              refine lv_istore (lv' := [(7, .int (nI 0)), (6, .int (nI i)), (5, .int (tripT (hrA Z n) i)), (0, .ref (ad 0)), (1, .ref (ad 1)), (2, .ref (ad 2)), (3, .ref (ad 3)), (4, .ref (ad 4))]) hx hb dL_hour_477 hl (by decide) rfl (fun ls hl => ?_)
                              refine lv_aload_n hx hb dL_hour_479 rfl (lv_at hl 5 rfl) ?_
                              refine lv_iconst (v := nI 5) hx hb dL_hour_480 (by decide) ?_
                              refine lv_iload hx hb dL_hour_481 (lv_at hl 1 rfl) ?_
                              refine lv_imulN hx hb dL_hour_483 ?_
                              refine lv_iconst (v := nI 1) hx hb dL_hour_484 (by decide) ?_
                              refine lv_iaddN hx hb dL_hour_485 ?_
                              refine lv_iload hx hb dL_hour_486 (lv_at hl 0 rfl) ?_
                              refine lv_if_eq (tgt := 495) hx hb dL_hour_488 (by decide) (fun _ => ?_) (fun h => absurd (by decide) h)
                              refine lv_aload_n hx hb dL_hour_495 rfl (lv_at hl 5 rfl) ?_
                              refine lv_iconst (v := nI 5) hx hb dL_hour_496 (by decide) ?_
                              refine lv_iload hx hb dL_hour_497 (lv_at hl 1 rfl) ?_
                              refine lv_imulN hx hb dL_hour_499 ?_
                              refine lv_iconst (v := nI 1) hx hb dL_hour_500 (by decide) ?_
                              refine lv_iaddN hx hb dL_hour_501 ?_
                              refine lw_l2 hx hb hK hP (by omega) dL_hour_502 ?_
                              refine lv_teq (vwB_at (by omega) (by omega)) ?_
                              refine lw_sB (by omega) (by omega) hx hb hK hP hI hS (fun _ h => fA_in h) dL_hour_503 (fun H locs hP hS => ?_)
                              refine lv_aload_n hx hb dL_hour_504 rfl (lv_at hl 5 rfl) ?_
                              refine lv_iconst (v := nI 5) hx hb dL_hour_505 (by decide) ?_
                              refine lv_iload hx hb dL_hour_506 (lv_at hl 1 rfl) ?_
                              refine lv_imulN hx hb dL_hour_508 ?_
                              refine lv_iconst (v := nI 3) hx hb dL_hour_509 (by decide) ?_
                              refine lv_iaddN hx hb dL_hour_510 ?_
                              refine lv_dup2_11 hx hb dL_hour_511 rfl rfl ?_
                              refine lw_l2 hx hb hK hP (by omega) dL_hour_512 ?_
                              refine lv_teq (vwB_at (by omega) (by omega)) ?_
                              refine lv_iload hx hb dL_hour_513 (lv_at hl 0 rfl) ?_
                              refine lv_if_eq (tgt := 522) hx hb dL_hour_515 (by decide) (fun _ => ?_) (fun h => absurd (by decide) h)
                              refine lv_iconst (v := nI 0) hx hb dL_hour_522 (by decide) ?_
                              refine lv_iadd hx hb dL_hour_523 ?_
                              refine lw_sB (by omega) (by omega) hx hb hK hP hI hS (fun _ h => fA_in h) dL_hour_524 (fun H locs hP hS => ?_)
                              refine lv_iload hx hb dL_hour_525 (lv_at hl 2 rfl) ?_
                              refine lv_iload hx hb dL_hour_527 (lv_at hl 0 rfl) ?_
                              refine lv_if_eq (tgt := 536) hx hb dL_hour_529 (by decide) (fun _ => ?_) (fun h => absurd (by decide) h)
                              refine lv_iconst (v := nI 0) hx hb dL_hour_536 (by decide) ?_
                              refine lv_iadd hx hb dL_hour_537 ?_
                              refine lv_istore (lv' := [(5, .int ((tripT (hrA Z n) i) + (nI 0))), (7, .int (nI 0)), (6, .int (nI i)), (0, .ref (ad 0)), (1, .ref (ad 1)), (2, .ref (ad 2)), (3, .ref (ad 3)), (4, .ref (ad 4))]) hx hb dL_hour_538 hl (by decide) rfl (fun ls hl => ?_)
                              refine lv_iinc (v := nI (i + 1)) (lv' := [(6, .int (nI (i + 1))), (5, .int ((tripT (hrA Z n) i) + (nI 0))), (7, .int (nI 0)), (0, .ref (ad 0)), (1, .ref (ad 1)), (2, .ref (ad 2)), (3, .ref (ad 3)), (4, .ref (ad 4))]) hx hb dL_hour_540 hl (k := 2) rfl (nI_add i 1) (by decide) rfl (fun ls hl => ?_)
                              refine lv_goto (tgt := 441) hx hb dL_hour_543 (by decide) ?_
                              have hl := lv_sub (l' := [(6, .int (nI (i + 1))), (5, .int ((tripT (hrA Z n) i) + (nI 0))), (0, .ref (ad 0)), (1, .ref (ad 1)), (2, .ref (ad 2)), (3, .ref (ad 3)), (4, .ref (ad 4))]) hl [0, 1, 3, 4, 5, 6, 7] rfl
                              have le5 : Value.int ((tripT (hrA Z n) i) + (nI 0)) = Value.int (tripT (hrA Z n) (i + 1)) := by first | exact congrArg Value.int (tz_yes c456 (Int32.not_lt.mpr c469)).2 | exact congrArg Value.int (tz_no (Or.inl c456)).2 | exact congrArg Value.int (tz_no (Or.inr c469)).2
                              have hl := lv_hasE hl (lcons rfl (lcons le5 (lcons rfl (lcons rfl (lcons rfl (lcons rfl (lcons rfl rfl)))))))
                              have hP := fP.eqc (congrArg (fun v9 => lwc ct v9 r) (show (upd (upd (tripZ (hrA Z n) i) (7 + 5 * i + 1) ((tripZ (hrA Z n) i) (7 + 5 * i + 1))) (7 + 5 * i + 3) (((upd (tripZ (hrA Z n) i) (7 + 5 * i + 1) ((tripZ (hrA Z n) i) (7 + 5 * i + 1))) (7 + 5 * i + 3)) + (nI 0))) = (tripZ (hrA Z n) (i + 1)) from by first | exact (tz_yes c456 (Int32.not_lt.mpr c469)).1 | exact (tz_no (Or.inl c456)).1 | exact (tz_no (Or.inr c469)).1)) hP
                              exact ih441 (i + 1) (by omega) (by omega) _ _ hP hS _ hl
                            · refine lv_iconst (v := nI 1) hx hb dL_hour_472 (by decide) ?_
                              refine lv_goto (tgt := 477) hx hb dL_hour_473 (by decide) ?_
                              refine lv_istore (lv' := [(7, .int (nI 1)), (6, .int (nI i)), (5, .int (tripT (hrA Z n) i)), (0, .ref (ad 0)), (1, .ref (ad 1)), (2, .ref (ad 2)), (3, .ref (ad 3)), (4, .ref (ad 4))]) hx hb dL_hour_477 hl (by decide) rfl (fun ls hl => ?_)
                              refine lv_aload_n hx hb dL_hour_479 rfl (lv_at hl 5 rfl) ?_
                              refine lv_iconst (v := nI 5) hx hb dL_hour_480 (by decide) ?_
                              refine lv_iload hx hb dL_hour_481 (lv_at hl 1 rfl) ?_
                              refine lv_imulN hx hb dL_hour_483 ?_
                              refine lv_iconst (v := nI 1) hx hb dL_hour_484 (by decide) ?_
                              refine lv_iaddN hx hb dL_hour_485 ?_
                              refine lv_iload hx hb dL_hour_486 (lv_at hl 0 rfl) ?_
                              refine lv_if_eq (tgt := 495) hx hb dL_hour_488 (by decide) (fun h => absurd h (by decide)) (fun _ => ?_)
                              refine lv_iconst (v := nI 0) hx hb dL_hour_491 (by decide) ?_
                              refine lv_goto (tgt := 503) hx hb dL_hour_492 (by decide) ?_
                              refine lw_sB (by omega) (by omega) hx hb hK hP hI hS (fun _ h => fA_in h) dL_hour_503 (fun H locs hP hS => ?_)
                              refine lv_aload_n hx hb dL_hour_504 rfl (lv_at hl 5 rfl) ?_
                              refine lv_iconst (v := nI 5) hx hb dL_hour_505 (by decide) ?_
                              refine lv_iload hx hb dL_hour_506 (lv_at hl 1 rfl) ?_
                              refine lv_imulN hx hb dL_hour_508 ?_
                              refine lv_iconst (v := nI 3) hx hb dL_hour_509 (by decide) ?_
                              refine lv_iaddN hx hb dL_hour_510 ?_
                              refine lv_dup2_11 hx hb dL_hour_511 rfl rfl ?_
                              refine lw_l2 hx hb hK hP (by omega) dL_hour_512 ?_
                              refine lv_teq (vwB_at (by omega) (by omega)) ?_
                              refine lv_iload hx hb dL_hour_513 (lv_at hl 0 rfl) ?_
                              refine lv_if_eq (tgt := 522) hx hb dL_hour_515 (by decide) (fun h => absurd h (by decide)) (fun _ => ?_)
                              refine lv_iconst (v := nI 1) hx hb dL_hour_518 (by decide) ?_
                              refine lv_goto (tgt := 523) hx hb dL_hour_519 (by decide) ?_
                              refine lv_iadd hx hb dL_hour_523 ?_
                              refine lw_sB (by omega) (by omega) hx hb hK hP hI hS (fun _ h => fA_in h) dL_hour_524 (fun H locs hP hS => ?_)
                              refine lv_iload hx hb dL_hour_525 (lv_at hl 2 rfl) ?_
                              refine lv_iload hx hb dL_hour_527 (lv_at hl 0 rfl) ?_
                              refine lv_if_eq (tgt := 536) hx hb dL_hour_529 (by decide) (fun h => absurd h (by decide)) (fun _ => ?_)
                              refine lv_iconst (v := nI 1) hx hb dL_hour_532 (by decide) ?_
                              refine lv_goto (tgt := 537) hx hb dL_hour_533 (by decide) ?_
                              refine lv_iadd hx hb dL_hour_537 ?_
                              refine lv_istore (lv' := [(5, .int ((tripT (hrA Z n) i) + (nI 1))), (7, .int (nI 1)), (6, .int (nI i)), (0, .ref (ad 0)), (1, .ref (ad 1)), (2, .ref (ad 2)), (3, .ref (ad 3)), (4, .ref (ad 4))]) hx hb dL_hour_538 hl (by decide) rfl (fun ls hl => ?_)
                              refine lv_iinc (v := nI (i + 1)) (lv' := [(6, .int (nI (i + 1))), (5, .int ((tripT (hrA Z n) i) + (nI 1))), (7, .int (nI 1)), (0, .ref (ad 0)), (1, .ref (ad 1)), (2, .ref (ad 2)), (3, .ref (ad 3)), (4, .ref (ad 4))]) hx hb dL_hour_540 hl (k := 2) rfl (nI_add i 1) (by decide) rfl (fun ls hl => ?_)
                              refine lv_goto (tgt := 441) hx hb dL_hour_543 (by decide) ?_
                              have hl := lv_sub (l' := [(6, .int (nI (i + 1))), (5, .int ((tripT (hrA Z n) i) + (nI 1))), (0, .ref (ad 0)), (1, .ref (ad 1)), (2, .ref (ad 2)), (3, .ref (ad 3)), (4, .ref (ad 4))]) hl [0, 1, 3, 4, 5, 6, 7] rfl
                              have le5 : Value.int ((tripT (hrA Z n) i) + (nI 1)) = Value.int (tripT (hrA Z n) (i + 1)) := by first | exact congrArg Value.int (tz_yes c456 (Int32.not_lt.mpr c469)).2 | exact congrArg Value.int (tz_no (Or.inl c456)).2 | exact congrArg Value.int (tz_no (Or.inr c469)).2
                              have hl := lv_hasE hl (lcons rfl (lcons le5 (lcons rfl (lcons rfl (lcons rfl (lcons rfl (lcons rfl rfl)))))))
                              have hP := fP.eqc (congrArg (fun v9 => lwc ct v9 r) (show (upd (upd (tripZ (hrA Z n) i) (7 + 5 * i + 1) (nI 0)) (7 + 5 * i + 3) (((upd (tripZ (hrA Z n) i) (7 + 5 * i + 1) (nI 0)) (7 + 5 * i + 3)) + (nI 1))) = (tripZ (hrA Z n) (i + 1)) from by first | exact (tz_yes c456 (Int32.not_lt.mpr c469)).1 | exact (tz_no (Or.inl c456)).1 | exact (tz_no (Or.inr c469)).1)) hP
                              exact ih441 (i + 1) (by omega) (by omega) _ _ hP hS _ hl
                    have hl := lv_sub (l' := [(6, .int (nI 0)), (5, .int (nI 0)), (0, .ref (ad 0)), (1, .ref (ad 1)), (2, .ref (ad 2)), (3, .ref (ad 3)), (4, .ref (ad 4))]) hl [0, 1, 2, 3, 4, 5, 6] rfl
                    have le5 : Value.int (nI 0) = Value.int (tripT (hrA Z n) 0) := by rfl
                    have hl := lv_hasE hl (lcons rfl (lcons le5 (lcons rfl (lcons rfl (lcons rfl (lcons rfl (lcons rfl rfl)))))))
                    have hP := fP.eqc (congrArg (fun v9 => lwc ct v9 r) (show (metS (warmS (shdS Z n 4) n 4) n) = (tripZ (hrA Z n) 0) from by rfl)) hP
                    exact lp441 (4 - 0 + 1) 0 (by omega) (Nat.lt_succ_self _) _ _ hP hS _ hl
                  · refine lv_aload_n hx hb dL_hour_352 rfl (lv_at hl 1 rfl) ?_
                    refine lv_aload_n hx hb dL_hour_353 rfl (lv_at hl 3 rfl) ?_
                    refine lv_aload_n hx hb dL_hour_354 rfl (lv_at hl 4 rfl) ?_
                    refine lv_aload hx hb dL_hour_355 (lv_at hl 5 rfl) ?_
                    refine lv_iload hx hb dL_hour_357 (lv_at hl 0 rfl) ?_
                    refine lw_cr (As := [.ref (ad 0), .ref (ad 2), .ref (ad 3), .ref (ad 4), .int (nI i)]) (rest := []) hx hb hown htg hK hI hS hP (fun _ h => fA_in h) hml hl.1 (mL_reason l D ct ad _ _ i n (metS_lG (warmS_lG (shdS_lG hg (by omega)) (by omega))) (by omega)) cw_L_20 rfl rfl ⟨Nat.le_of_ble_eq_true rfl, Nat.le_of_ble_eq_true rfl⟩ (Nat.le_of_ble_eq_true rfl) dL_hour_359 ⟨Nat.le_refl _, Nat.le_refl _⟩ (fun H locs hP hS => ?_)
                    have hrl := @rsn_lt (metS (warmS (shdS Z n 4) n 4) i) i
                    refine lv_istore (lv' := [(6, .int (nI (rsn (metS (warmS (shdS Z n 4) n 4) i) i))), (5, .int (nI i)), (0, .ref (ad 0)), (1, .ref (ad 1)), (2, .ref (ad 2)), (3, .ref (ad 3)), (4, .ref (ad 4))]) hx hb dL_hour_362 hl (by decide) rfl (fun ls hl => ?_)
                    refine lv_aload_n hx hb dL_hour_364 rfl (lv_at hl 3 rfl) ?_
                    refine lv_iconst (v := nI 2) hx hb dL_hour_365 (by decide) ?_
                    refine lv_iload hx hb dL_hour_366 (lv_at hl 1 rfl) ?_
                    refine lv_imulN hx hb dL_hour_368 ?_
                    refine lv_dup2_11 hx hb dL_hour_369 rfl rfl ?_
                    refine lw_l1 hx hb hK hP (by omega) dL_hour_370 ?_
                    refine lv_teq (vwM_a0 (by omega)) ?_
                    refine lv_iload hx hb dL_hour_371 (lv_at hl 0 rfl) ?_
                    refine lv_ifneN (tgt := 386) hx hb (by omega) dL_hour_373 (by decide) (fun c373 => ?_) (fun c373 => ?_)
                    · refine lv_iconst (v := nI 0) hx hb dL_hour_386 (by decide) ?_
                      refine lv_iadd hx hb dL_hour_387 ?_
                      refine lw_sM0 (by omega) hx hb hK hP hI hS (fun _ h => fA_in h) dL_hour_388 (fun H locs hP hS => ?_)
                      refine lv_aload_n hx hb dL_hour_389 rfl (lv_at hl 3 rfl) ?_
                      refine lv_iconst (v := nI 2) hx hb dL_hour_390 (by decide) ?_
                      refine lv_iload hx hb dL_hour_391 (lv_at hl 1 rfl) ?_
                      refine lv_imulN hx hb dL_hour_393 ?_
                      refine lv_iconst (v := nI 1) hx hb dL_hour_394 (by decide) ?_
                      refine lv_iaddN hx hb dL_hour_395 ?_
                      refine lv_dup2_11 hx hb dL_hour_396 rfl rfl ?_
                      refine lw_l1 hx hb hK hP (by omega) dL_hour_397 ?_
                      refine lv_teq (vwM_a1 (by omega)) ?_
                      refine lv_iload hx hb dL_hour_398 (lv_at hl 0 rfl) ?_
                      refine lv_iconst (v := nI 1) hx hb dL_hour_400 (by decide) ?_
                      refine lv_icmp_leN (tgt := 408) hx hb (by omega) (by omega) dL_hour_401 (by decide) (fun c401 => ?_) (fun c401 => ?_)
                      · refine lv_iconst (v := nI 0) hx hb dL_hour_408 (by decide) ?_
                        refine lv_iadd hx hb dL_hour_409 ?_
                        refine lw_sM1 (by omega) hx hb hK hP hI hS (fun _ h => fA_in h) dL_hour_410 (fun H locs hP hS => ?_)
                        refine lv_aload hx hb dL_hour_411 (lv_at hl 6 rfl) ?_
                        refine lv_bipush (v := nI 6) hx hb dL_hour_413 (by decide) ?_
                        refine lv_dup2_11 hx hb dL_hour_415 rfl rfl ?_
                        refine lw_l4 hx hb hK hP (by omega) dL_hour_416 ?_
                        refine lv_teq (vwT_at (by omega)) ?_
                        refine lv_iload hx hb dL_hour_417 (lv_at hl 0 rfl) ?_
                        refine lv_ifneN (tgt := 426) hx hb (by omega) dL_hour_419 (by decide) (fun c419 => ?_) (fun c419 => ?_)
                        · refine lv_iconst (v := nI 0) hx hb dL_hour_426 (by decide) ?_
                          refine lv_iadd hx hb dL_hour_427 ?_
                          refine lw_sT (by omega) hx hb hK hP hI hS (fun _ h => fA_in h) dL_hour_428 (fun H locs hP hS => ?_)
                          refine lv_iinc (v := nI (i + 1)) (lv' := [(5, .int (nI (i + 1))), (6, .int (nI (rsn (metS (warmS (shdS Z n 4) n 4) i) i))), (0, .ref (ad 0)), (1, .ref (ad 1)), (2, .ref (ad 2)), (3, .ref (ad 3)), (4, .ref (ad 4))]) hx hb dL_hour_429 hl (k := 1) rfl (nI_add i 1) (by decide) rfl (fun ls hl => ?_)
                          refine lv_goto (tgt := 343) hx hb dL_hour_432 (by decide) ?_
                          have hl := lv_sub (l' := [(5, .int (nI (i + 1))), (0, .ref (ad 0)), (1, .ref (ad 1)), (2, .ref (ad 2)), (3, .ref (ad 3)), (4, .ref (ad 4))]) hl [0, 2, 3, 4, 5, 6] rfl
                          have hP := fP.eqc (congrArg (fun v9 => lwc ct v9 r) (show (upd (upd (upd (metS (warmS (shdS Z n 4) n 4) i) (39 + 8 * i + 6) (((metS (warmS (shdS Z n 4) n 4) i) (39 + 8 * i + 6)) + (nI 0))) (39 + 8 * i + 7) (((upd (metS (warmS (shdS Z n 4) n 4) i) (39 + 8 * i + 6) (((metS (warmS (shdS Z n 4) n 4) i) (39 + 8 * i + 6)) + (nI 0))) (39 + 8 * i + 7)) + (nI 0))) (6) (((upd (upd (metS (warmS (shdS Z n 4) n 4) i) (39 + 8 * i + 6) (((metS (warmS (shdS Z n 4) n 4) i) (39 + 8 * i + 6)) + (nI 0))) (39 + 8 * i + 7) (((upd (metS (warmS (shdS Z n 4) n 4) i) (39 + 8 * i + 6) (((metS (warmS (shdS Z n 4) n 4) i) (39 + 8 * i + 6)) + (nI 0))) (39 + 8 * i + 7)) + (nI 0))) 6) + (nI 0))) = (metS (warmS (shdS Z n 4) n 4) (i + 1)) from by first | (exfalso; omega) | (simp only [metS, meterZ, mt2, mt1, c6, Nat.not_lt.mpr c6, c201, Nat.not_lt.mpr c201, c349, Nat.not_le.mpr c349, c373, c401, Nat.not_lt.mpr c401, c419, decide_true, decide_false, Bool.and_true, Bool.true_and, Bool.and_false, Bool.false_and, Bool.or_true, Bool.true_or, Bool.or_false, Bool.false_or, Bool.and_self, Bool.or_self, if_true, if_false, eq_self, Bool.false_eq_true, Bool.true_eq_false, reduceCtorEq, nI_0, not_true_eq_false, not_false_eq_true, and_true, true_and, and_false, false_and, or_true, true_or, or_false, false_or, and_self, or_self, Int32.add_zero]; done) | (simp [metS, meterZ, mt2, mt1, c6, Nat.not_lt.mpr c6, c201, Nat.not_lt.mpr c201, c349, Nat.not_le.mpr c349, c373, c401, Nat.not_lt.mpr c401, c419]; done))) hP
                          exact ih343 (i + 1) (by omega) (by omega) _ _ hP hS _ hl
                        · refine lv_iconst (v := nI 1) hx hb dL_hour_422 (by decide) ?_
                          refine lv_goto (tgt := 427) hx hb dL_hour_423 (by decide) ?_
                          refine lv_iadd hx hb dL_hour_427 ?_
                          refine lw_sT (by omega) hx hb hK hP hI hS (fun _ h => fA_in h) dL_hour_428 (fun H locs hP hS => ?_)
                          refine lv_iinc (v := nI (i + 1)) (lv' := [(5, .int (nI (i + 1))), (6, .int (nI (rsn (metS (warmS (shdS Z n 4) n 4) i) i))), (0, .ref (ad 0)), (1, .ref (ad 1)), (2, .ref (ad 2)), (3, .ref (ad 3)), (4, .ref (ad 4))]) hx hb dL_hour_429 hl (k := 1) rfl (nI_add i 1) (by decide) rfl (fun ls hl => ?_)
                          refine lv_goto (tgt := 343) hx hb dL_hour_432 (by decide) ?_
                          have hl := lv_sub (l' := [(5, .int (nI (i + 1))), (0, .ref (ad 0)), (1, .ref (ad 1)), (2, .ref (ad 2)), (3, .ref (ad 3)), (4, .ref (ad 4))]) hl [0, 2, 3, 4, 5, 6] rfl
                          have hP := fP.eqc (congrArg (fun v9 => lwc ct v9 r) (show (upd (upd (upd (metS (warmS (shdS Z n 4) n 4) i) (39 + 8 * i + 6) (((metS (warmS (shdS Z n 4) n 4) i) (39 + 8 * i + 6)) + (nI 0))) (39 + 8 * i + 7) (((upd (metS (warmS (shdS Z n 4) n 4) i) (39 + 8 * i + 6) (((metS (warmS (shdS Z n 4) n 4) i) (39 + 8 * i + 6)) + (nI 0))) (39 + 8 * i + 7)) + (nI 0))) (6) (((upd (upd (metS (warmS (shdS Z n 4) n 4) i) (39 + 8 * i + 6) (((metS (warmS (shdS Z n 4) n 4) i) (39 + 8 * i + 6)) + (nI 0))) (39 + 8 * i + 7) (((upd (metS (warmS (shdS Z n 4) n 4) i) (39 + 8 * i + 6) (((metS (warmS (shdS Z n 4) n 4) i) (39 + 8 * i + 6)) + (nI 0))) (39 + 8 * i + 7)) + (nI 0))) 6) + (nI 1))) = (metS (warmS (shdS Z n 4) n 4) (i + 1)) from by first | (exfalso; omega) | (simp only [metS, meterZ, mt2, mt1, c6, Nat.not_lt.mpr c6, c201, Nat.not_lt.mpr c201, c349, Nat.not_le.mpr c349, c373, c401, Nat.not_lt.mpr c401, c419, decide_true, decide_false, Bool.and_true, Bool.true_and, Bool.and_false, Bool.false_and, Bool.or_true, Bool.true_or, Bool.or_false, Bool.false_or, Bool.and_self, Bool.or_self, if_true, if_false, eq_self, Bool.false_eq_true, Bool.true_eq_false, reduceCtorEq, nI_0, not_true_eq_false, not_false_eq_true, and_true, true_and, and_false, false_and, or_true, true_or, or_false, false_or, and_self, or_self, Int32.add_zero]; done) | (simp [metS, meterZ, mt2, mt1, c6, Nat.not_lt.mpr c6, c201, Nat.not_lt.mpr c201, c349, Nat.not_le.mpr c349, c373, c401, Nat.not_lt.mpr c401, c419]; done))) hP
                          exact ih343 (i + 1) (by omega) (by omega) _ _ hP hS _ hl
                      · refine lv_iconst (v := nI 1) hx hb dL_hour_404 (by decide) ?_
                        refine lv_goto (tgt := 409) hx hb dL_hour_405 (by decide) ?_
                        refine lv_iadd hx hb dL_hour_409 ?_
                        refine lw_sM1 (by omega) hx hb hK hP hI hS (fun _ h => fA_in h) dL_hour_410 (fun H locs hP hS => ?_)
                        refine lv_aload hx hb dL_hour_411 (lv_at hl 6 rfl) ?_
                        refine lv_bipush (v := nI 6) hx hb dL_hour_413 (by decide) ?_
                        refine lv_dup2_11 hx hb dL_hour_415 rfl rfl ?_
                        refine lw_l4 hx hb hK hP (by omega) dL_hour_416 ?_
                        refine lv_teq (vwT_at (by omega)) ?_
                        refine lv_iload hx hb dL_hour_417 (lv_at hl 0 rfl) ?_
                        refine lv_ifneN (tgt := 426) hx hb (by omega) dL_hour_419 (by decide) (fun c419 => ?_) (fun c419 => ?_)
                        · refine lv_iconst (v := nI 0) hx hb dL_hour_426 (by decide) ?_
                          refine lv_iadd hx hb dL_hour_427 ?_
                          refine lw_sT (by omega) hx hb hK hP hI hS (fun _ h => fA_in h) dL_hour_428 (fun H locs hP hS => ?_)
                          refine lv_iinc (v := nI (i + 1)) (lv' := [(5, .int (nI (i + 1))), (6, .int (nI (rsn (metS (warmS (shdS Z n 4) n 4) i) i))), (0, .ref (ad 0)), (1, .ref (ad 1)), (2, .ref (ad 2)), (3, .ref (ad 3)), (4, .ref (ad 4))]) hx hb dL_hour_429 hl (k := 1) rfl (nI_add i 1) (by decide) rfl (fun ls hl => ?_)
                          refine lv_goto (tgt := 343) hx hb dL_hour_432 (by decide) ?_
                          have hl := lv_sub (l' := [(5, .int (nI (i + 1))), (0, .ref (ad 0)), (1, .ref (ad 1)), (2, .ref (ad 2)), (3, .ref (ad 3)), (4, .ref (ad 4))]) hl [0, 2, 3, 4, 5, 6] rfl
                          have hP := fP.eqc (congrArg (fun v9 => lwc ct v9 r) (show (upd (upd (upd (metS (warmS (shdS Z n 4) n 4) i) (39 + 8 * i + 6) (((metS (warmS (shdS Z n 4) n 4) i) (39 + 8 * i + 6)) + (nI 0))) (39 + 8 * i + 7) (((upd (metS (warmS (shdS Z n 4) n 4) i) (39 + 8 * i + 6) (((metS (warmS (shdS Z n 4) n 4) i) (39 + 8 * i + 6)) + (nI 0))) (39 + 8 * i + 7)) + (nI 1))) (6) (((upd (upd (metS (warmS (shdS Z n 4) n 4) i) (39 + 8 * i + 6) (((metS (warmS (shdS Z n 4) n 4) i) (39 + 8 * i + 6)) + (nI 0))) (39 + 8 * i + 7) (((upd (metS (warmS (shdS Z n 4) n 4) i) (39 + 8 * i + 6) (((metS (warmS (shdS Z n 4) n 4) i) (39 + 8 * i + 6)) + (nI 0))) (39 + 8 * i + 7)) + (nI 1))) 6) + (nI 0))) = (metS (warmS (shdS Z n 4) n 4) (i + 1)) from by first | (exfalso; omega) | (simp only [metS, meterZ, mt2, mt1, c6, Nat.not_lt.mpr c6, c201, Nat.not_lt.mpr c201, c349, Nat.not_le.mpr c349, c373, c401, Nat.not_le.mpr c401, c419, decide_true, decide_false, Bool.and_true, Bool.true_and, Bool.and_false, Bool.false_and, Bool.or_true, Bool.true_or, Bool.or_false, Bool.false_or, Bool.and_self, Bool.or_self, if_true, if_false, eq_self, Bool.false_eq_true, Bool.true_eq_false, reduceCtorEq, nI_0, not_true_eq_false, not_false_eq_true, and_true, true_and, and_false, false_and, or_true, true_or, or_false, false_or, and_self, or_self, Int32.add_zero]; done) | (simp [metS, meterZ, mt2, mt1, c6, Nat.not_lt.mpr c6, c201, Nat.not_lt.mpr c201, c349, Nat.not_le.mpr c349, c373, c401, Nat.not_le.mpr c401, c419]; done))) hP
                          exact ih343 (i + 1) (by omega) (by omega) _ _ hP hS _ hl
                        · refine lv_iconst (v := nI 1) hx hb dL_hour_422 (by decide) ?_
                          refine lv_goto (tgt := 427) hx hb dL_hour_423 (by decide) ?_
                          refine lv_iadd hx hb dL_hour_427 ?_
                          refine lw_sT (by omega) hx hb hK hP hI hS (fun _ h => fA_in h) dL_hour_428 (fun H locs hP hS => ?_)
                          refine lv_iinc (v := nI (i + 1)) (lv' := [(5, .int (nI (i + 1))), (6, .int (nI (rsn (metS (warmS (shdS Z n 4) n 4) i) i))), (0, .ref (ad 0)), (1, .ref (ad 1)), (2, .ref (ad 2)), (3, .ref (ad 3)), (4, .ref (ad 4))]) hx hb dL_hour_429 hl (k := 1) rfl (nI_add i 1) (by decide) rfl (fun ls hl => ?_)
                          refine lv_goto (tgt := 343) hx hb dL_hour_432 (by decide) ?_
                          have hl := lv_sub (l' := [(5, .int (nI (i + 1))), (0, .ref (ad 0)), (1, .ref (ad 1)), (2, .ref (ad 2)), (3, .ref (ad 3)), (4, .ref (ad 4))]) hl [0, 2, 3, 4, 5, 6] rfl
                          have hP := fP.eqc (congrArg (fun v9 => lwc ct v9 r) (show (upd (upd (upd (metS (warmS (shdS Z n 4) n 4) i) (39 + 8 * i + 6) (((metS (warmS (shdS Z n 4) n 4) i) (39 + 8 * i + 6)) + (nI 0))) (39 + 8 * i + 7) (((upd (metS (warmS (shdS Z n 4) n 4) i) (39 + 8 * i + 6) (((metS (warmS (shdS Z n 4) n 4) i) (39 + 8 * i + 6)) + (nI 0))) (39 + 8 * i + 7)) + (nI 1))) (6) (((upd (upd (metS (warmS (shdS Z n 4) n 4) i) (39 + 8 * i + 6) (((metS (warmS (shdS Z n 4) n 4) i) (39 + 8 * i + 6)) + (nI 0))) (39 + 8 * i + 7) (((upd (metS (warmS (shdS Z n 4) n 4) i) (39 + 8 * i + 6) (((metS (warmS (shdS Z n 4) n 4) i) (39 + 8 * i + 6)) + (nI 0))) (39 + 8 * i + 7)) + (nI 1))) 6) + (nI 1))) = (metS (warmS (shdS Z n 4) n 4) (i + 1)) from by first | (exfalso; omega) | (simp only [metS, meterZ, mt2, mt1, c6, Nat.not_lt.mpr c6, c201, Nat.not_lt.mpr c201, c349, Nat.not_le.mpr c349, c373, c401, Nat.not_le.mpr c401, c419, decide_true, decide_false, Bool.and_true, Bool.true_and, Bool.and_false, Bool.false_and, Bool.or_true, Bool.true_or, Bool.or_false, Bool.false_or, Bool.and_self, Bool.or_self, if_true, if_false, eq_self, Bool.false_eq_true, Bool.true_eq_false, reduceCtorEq, nI_0, not_true_eq_false, not_false_eq_true, and_true, true_and, and_false, false_and, or_true, true_or, or_false, false_or, and_self, or_self, Int32.add_zero]; done) | (simp [metS, meterZ, mt2, mt1, c6, Nat.not_lt.mpr c6, c201, Nat.not_lt.mpr c201, c349, Nat.not_le.mpr c349, c373, c401, Nat.not_le.mpr c401, c419]; done))) hP
                          exact ih343 (i + 1) (by omega) (by omega) _ _ hP hS _ hl
                    · refine lv_aload_n hx hb dL_hour_376 rfl (lv_at hl 2 rfl) ?_
                      refine lv_bipush (v := nI 6) hx hb dL_hour_377 (by decide) ?_
                      refine lv_iload hx hb dL_hour_379 (lv_at hl 1 rfl) ?_
                      refine lv_imulN hx hb dL_hour_381 ?_
                      refine lw_l0 hx hb hK hP (by omega) dL_hour_382 ?_
                      refine lv_teq (vwA_a0 (by omega)) ?_
                      refine lv_goto (tgt := 387) hx hb dL_hour_383 (by decide) ?_
                      refine lv_iadd hx hb dL_hour_387 ?_
                      refine lw_sM0 (by omega) hx hb hK hP hI hS (fun _ h => fA_in h) dL_hour_388 (fun H locs hP hS => ?_)
                      refine lv_aload_n hx hb dL_hour_389 rfl (lv_at hl 3 rfl) ?_
                      refine lv_iconst (v := nI 2) hx hb dL_hour_390 (by decide) ?_
                      refine lv_iload hx hb dL_hour_391 (lv_at hl 1 rfl) ?_
                      refine lv_imulN hx hb dL_hour_393 ?_
                      refine lv_iconst (v := nI 1) hx hb dL_hour_394 (by decide) ?_
                      refine lv_iaddN hx hb dL_hour_395 ?_
                      refine lv_dup2_11 hx hb dL_hour_396 rfl rfl ?_
                      refine lw_l1 hx hb hK hP (by omega) dL_hour_397 ?_
                      refine lv_teq (vwM_a1 (by omega)) ?_
                      refine lv_iload hx hb dL_hour_398 (lv_at hl 0 rfl) ?_
                      refine lv_iconst (v := nI 1) hx hb dL_hour_400 (by decide) ?_
                      refine lv_icmp_leN (tgt := 408) hx hb (by omega) (by omega) dL_hour_401 (by decide) (fun c401 => ?_) (fun c401 => ?_)
                      · refine lv_iconst (v := nI 0) hx hb dL_hour_408 (by decide) ?_
                        refine lv_iadd hx hb dL_hour_409 ?_
                        refine lw_sM1 (by omega) hx hb hK hP hI hS (fun _ h => fA_in h) dL_hour_410 (fun H locs hP hS => ?_)
                        refine lv_aload hx hb dL_hour_411 (lv_at hl 6 rfl) ?_
                        refine lv_bipush (v := nI 6) hx hb dL_hour_413 (by decide) ?_
                        refine lv_dup2_11 hx hb dL_hour_415 rfl rfl ?_
                        refine lw_l4 hx hb hK hP (by omega) dL_hour_416 ?_
                        refine lv_teq (vwT_at (by omega)) ?_
                        refine lv_iload hx hb dL_hour_417 (lv_at hl 0 rfl) ?_
                        refine lv_ifneN (tgt := 426) hx hb (by omega) dL_hour_419 (by decide) (fun c419 => ?_) (fun c419 => ?_)
                        · refine lv_iconst (v := nI 0) hx hb dL_hour_426 (by decide) ?_
                          refine lv_iadd hx hb dL_hour_427 ?_
                          refine lw_sT (by omega) hx hb hK hP hI hS (fun _ h => fA_in h) dL_hour_428 (fun H locs hP hS => ?_)
                          refine lv_iinc (v := nI (i + 1)) (lv' := [(5, .int (nI (i + 1))), (6, .int (nI (rsn (metS (warmS (shdS Z n 4) n 4) i) i))), (0, .ref (ad 0)), (1, .ref (ad 1)), (2, .ref (ad 2)), (3, .ref (ad 3)), (4, .ref (ad 4))]) hx hb dL_hour_429 hl (k := 1) rfl (nI_add i 1) (by decide) rfl (fun ls hl => ?_)
                          refine lv_goto (tgt := 343) hx hb dL_hour_432 (by decide) ?_
                          have hl := lv_sub (l' := [(5, .int (nI (i + 1))), (0, .ref (ad 0)), (1, .ref (ad 1)), (2, .ref (ad 2)), (3, .ref (ad 3)), (4, .ref (ad 4))]) hl [0, 2, 3, 4, 5, 6] rfl
                          have hP := fP.eqc (congrArg (fun v9 => lwc ct v9 r) (show (upd (upd (upd (metS (warmS (shdS Z n 4) n 4) i) (39 + 8 * i + 6) (((metS (warmS (shdS Z n 4) n 4) i) (39 + 8 * i + 6)) + ((metS (warmS (shdS Z n 4) n 4) i) (39 + 8 * i + 0)))) (39 + 8 * i + 7) (((upd (metS (warmS (shdS Z n 4) n 4) i) (39 + 8 * i + 6) (((metS (warmS (shdS Z n 4) n 4) i) (39 + 8 * i + 6)) + ((metS (warmS (shdS Z n 4) n 4) i) (39 + 8 * i + 0)))) (39 + 8 * i + 7)) + (nI 0))) (6) (((upd (upd (metS (warmS (shdS Z n 4) n 4) i) (39 + 8 * i + 6) (((metS (warmS (shdS Z n 4) n 4) i) (39 + 8 * i + 6)) + ((metS (warmS (shdS Z n 4) n 4) i) (39 + 8 * i + 0)))) (39 + 8 * i + 7) (((upd (metS (warmS (shdS Z n 4) n 4) i) (39 + 8 * i + 6) (((metS (warmS (shdS Z n 4) n 4) i) (39 + 8 * i + 6)) + ((metS (warmS (shdS Z n 4) n 4) i) (39 + 8 * i + 0)))) (39 + 8 * i + 7)) + (nI 0))) 6) + (nI 0))) = (metS (warmS (shdS Z n 4) n 4) (i + 1)) from by first | (exfalso; omega) | (simp only [metS, meterZ, mt2, mt1, c6, Nat.not_lt.mpr c6, c201, Nat.not_lt.mpr c201, c349, Nat.not_le.mpr c349, c373, c401, Nat.not_lt.mpr c401, c419, decide_true, decide_false, Bool.and_true, Bool.true_and, Bool.and_false, Bool.false_and, Bool.or_true, Bool.true_or, Bool.or_false, Bool.false_or, Bool.and_self, Bool.or_self, if_true, if_false, eq_self, Bool.false_eq_true, Bool.true_eq_false, reduceCtorEq, nI_0, not_true_eq_false, not_false_eq_true, and_true, true_and, and_false, false_and, or_true, true_or, or_false, false_or, and_self, or_self, Int32.add_zero]; done) | (simp [metS, meterZ, mt2, mt1, c6, Nat.not_lt.mpr c6, c201, Nat.not_lt.mpr c201, c349, Nat.not_le.mpr c349, c373, c401, Nat.not_lt.mpr c401, c419]; done))) hP
                          exact ih343 (i + 1) (by omega) (by omega) _ _ hP hS _ hl
                        · refine lv_iconst (v := nI 1) hx hb dL_hour_422 (by decide) ?_
                          refine lv_goto (tgt := 427) hx hb dL_hour_423 (by decide) ?_
                          refine lv_iadd hx hb dL_hour_427 ?_
                          refine lw_sT (by omega) hx hb hK hP hI hS (fun _ h => fA_in h) dL_hour_428 (fun H locs hP hS => ?_)
                          refine lv_iinc (v := nI (i + 1)) (lv' := [(5, .int (nI (i + 1))), (6, .int (nI (rsn (metS (warmS (shdS Z n 4) n 4) i) i))), (0, .ref (ad 0)), (1, .ref (ad 1)), (2, .ref (ad 2)), (3, .ref (ad 3)), (4, .ref (ad 4))]) hx hb dL_hour_429 hl (k := 1) rfl (nI_add i 1) (by decide) rfl (fun ls hl => ?_)
                          refine lv_goto (tgt := 343) hx hb dL_hour_432 (by decide) ?_
                          have hl := lv_sub (l' := [(5, .int (nI (i + 1))), (0, .ref (ad 0)), (1, .ref (ad 1)), (2, .ref (ad 2)), (3, .ref (ad 3)), (4, .ref (ad 4))]) hl [0, 2, 3, 4, 5, 6] rfl
                          have hP := fP.eqc (congrArg (fun v9 => lwc ct v9 r) (show (upd (upd (upd (metS (warmS (shdS Z n 4) n 4) i) (39 + 8 * i + 6) (((metS (warmS (shdS Z n 4) n 4) i) (39 + 8 * i + 6)) + ((metS (warmS (shdS Z n 4) n 4) i) (39 + 8 * i + 0)))) (39 + 8 * i + 7) (((upd (metS (warmS (shdS Z n 4) n 4) i) (39 + 8 * i + 6) (((metS (warmS (shdS Z n 4) n 4) i) (39 + 8 * i + 6)) + ((metS (warmS (shdS Z n 4) n 4) i) (39 + 8 * i + 0)))) (39 + 8 * i + 7)) + (nI 0))) (6) (((upd (upd (metS (warmS (shdS Z n 4) n 4) i) (39 + 8 * i + 6) (((metS (warmS (shdS Z n 4) n 4) i) (39 + 8 * i + 6)) + ((metS (warmS (shdS Z n 4) n 4) i) (39 + 8 * i + 0)))) (39 + 8 * i + 7) (((upd (metS (warmS (shdS Z n 4) n 4) i) (39 + 8 * i + 6) (((metS (warmS (shdS Z n 4) n 4) i) (39 + 8 * i + 6)) + ((metS (warmS (shdS Z n 4) n 4) i) (39 + 8 * i + 0)))) (39 + 8 * i + 7)) + (nI 0))) 6) + (nI 1))) = (metS (warmS (shdS Z n 4) n 4) (i + 1)) from by first | (exfalso; omega) | (simp only [metS, meterZ, mt2, mt1, c6, Nat.not_lt.mpr c6, c201, Nat.not_lt.mpr c201, c349, Nat.not_le.mpr c349, c373, c401, Nat.not_lt.mpr c401, c419, decide_true, decide_false, Bool.and_true, Bool.true_and, Bool.and_false, Bool.false_and, Bool.or_true, Bool.true_or, Bool.or_false, Bool.false_or, Bool.and_self, Bool.or_self, if_true, if_false, eq_self, Bool.false_eq_true, Bool.true_eq_false, reduceCtorEq, nI_0, not_true_eq_false, not_false_eq_true, and_true, true_and, and_false, false_and, or_true, true_or, or_false, false_or, and_self, or_self, Int32.add_zero]; done) | (simp [metS, meterZ, mt2, mt1, c6, Nat.not_lt.mpr c6, c201, Nat.not_lt.mpr c201, c349, Nat.not_le.mpr c349, c373, c401, Nat.not_lt.mpr c401, c419]; done))) hP
                          exact ih343 (i + 1) (by omega) (by omega) _ _ hP hS _ hl
                      · refine lv_iconst (v := nI 1) hx hb dL_hour_404 (by decide) ?_
                        refine lv_goto (tgt := 409) hx hb dL_hour_405 (by decide) ?_
                        refine lv_iadd hx hb dL_hour_409 ?_
                        refine lw_sM1 (by omega) hx hb hK hP hI hS (fun _ h => fA_in h) dL_hour_410 (fun H locs hP hS => ?_)
                        refine lv_aload hx hb dL_hour_411 (lv_at hl 6 rfl) ?_
                        refine lv_bipush (v := nI 6) hx hb dL_hour_413 (by decide) ?_
                        refine lv_dup2_11 hx hb dL_hour_415 rfl rfl ?_
                        refine lw_l4 hx hb hK hP (by omega) dL_hour_416 ?_
                        refine lv_teq (vwT_at (by omega)) ?_
                        refine lv_iload hx hb dL_hour_417 (lv_at hl 0 rfl) ?_
                        refine lv_ifneN (tgt := 426) hx hb (by omega) dL_hour_419 (by decide) (fun c419 => ?_) (fun c419 => ?_)
                        · refine lv_iconst (v := nI 0) hx hb dL_hour_426 (by decide) ?_
                          refine lv_iadd hx hb dL_hour_427 ?_
                          refine lw_sT (by omega) hx hb hK hP hI hS (fun _ h => fA_in h) dL_hour_428 (fun H locs hP hS => ?_)
                          refine lv_iinc (v := nI (i + 1)) (lv' := [(5, .int (nI (i + 1))), (6, .int (nI (rsn (metS (warmS (shdS Z n 4) n 4) i) i))), (0, .ref (ad 0)), (1, .ref (ad 1)), (2, .ref (ad 2)), (3, .ref (ad 3)), (4, .ref (ad 4))]) hx hb dL_hour_429 hl (k := 1) rfl (nI_add i 1) (by decide) rfl (fun ls hl => ?_)
                          refine lv_goto (tgt := 343) hx hb dL_hour_432 (by decide) ?_
                          have hl := lv_sub (l' := [(5, .int (nI (i + 1))), (0, .ref (ad 0)), (1, .ref (ad 1)), (2, .ref (ad 2)), (3, .ref (ad 3)), (4, .ref (ad 4))]) hl [0, 2, 3, 4, 5, 6] rfl
                          have hP := fP.eqc (congrArg (fun v9 => lwc ct v9 r) (show (upd (upd (upd (metS (warmS (shdS Z n 4) n 4) i) (39 + 8 * i + 6) (((metS (warmS (shdS Z n 4) n 4) i) (39 + 8 * i + 6)) + ((metS (warmS (shdS Z n 4) n 4) i) (39 + 8 * i + 0)))) (39 + 8 * i + 7) (((upd (metS (warmS (shdS Z n 4) n 4) i) (39 + 8 * i + 6) (((metS (warmS (shdS Z n 4) n 4) i) (39 + 8 * i + 6)) + ((metS (warmS (shdS Z n 4) n 4) i) (39 + 8 * i + 0)))) (39 + 8 * i + 7)) + (nI 1))) (6) (((upd (upd (metS (warmS (shdS Z n 4) n 4) i) (39 + 8 * i + 6) (((metS (warmS (shdS Z n 4) n 4) i) (39 + 8 * i + 6)) + ((metS (warmS (shdS Z n 4) n 4) i) (39 + 8 * i + 0)))) (39 + 8 * i + 7) (((upd (metS (warmS (shdS Z n 4) n 4) i) (39 + 8 * i + 6) (((metS (warmS (shdS Z n 4) n 4) i) (39 + 8 * i + 6)) + ((metS (warmS (shdS Z n 4) n 4) i) (39 + 8 * i + 0)))) (39 + 8 * i + 7)) + (nI 1))) 6) + (nI 0))) = (metS (warmS (shdS Z n 4) n 4) (i + 1)) from by first | (exfalso; omega) | (simp only [metS, meterZ, mt2, mt1, c6, Nat.not_lt.mpr c6, c201, Nat.not_lt.mpr c201, c349, Nat.not_le.mpr c349, c373, c401, Nat.not_le.mpr c401, c419, decide_true, decide_false, Bool.and_true, Bool.true_and, Bool.and_false, Bool.false_and, Bool.or_true, Bool.true_or, Bool.or_false, Bool.false_or, Bool.and_self, Bool.or_self, if_true, if_false, eq_self, Bool.false_eq_true, Bool.true_eq_false, reduceCtorEq, nI_0, not_true_eq_false, not_false_eq_true, and_true, true_and, and_false, false_and, or_true, true_or, or_false, false_or, and_self, or_self, Int32.add_zero]; done) | (simp [metS, meterZ, mt2, mt1, c6, Nat.not_lt.mpr c6, c201, Nat.not_lt.mpr c201, c349, Nat.not_le.mpr c349, c373, c401, Nat.not_le.mpr c401, c419]; done))) hP
                          exact ih343 (i + 1) (by omega) (by omega) _ _ hP hS _ hl
                        · refine lv_iconst (v := nI 1) hx hb dL_hour_422 (by decide) ?_
                          refine lv_goto (tgt := 427) hx hb dL_hour_423 (by decide) ?_
                          refine lv_iadd hx hb dL_hour_427 ?_
                          refine lw_sT (by omega) hx hb hK hP hI hS (fun _ h => fA_in h) dL_hour_428 (fun H locs hP hS => ?_)
                          refine lv_iinc (v := nI (i + 1)) (lv' := [(5, .int (nI (i + 1))), (6, .int (nI (rsn (metS (warmS (shdS Z n 4) n 4) i) i))), (0, .ref (ad 0)), (1, .ref (ad 1)), (2, .ref (ad 2)), (3, .ref (ad 3)), (4, .ref (ad 4))]) hx hb dL_hour_429 hl (k := 1) rfl (nI_add i 1) (by decide) rfl (fun ls hl => ?_)
                          refine lv_goto (tgt := 343) hx hb dL_hour_432 (by decide) ?_
                          have hl := lv_sub (l' := [(5, .int (nI (i + 1))), (0, .ref (ad 0)), (1, .ref (ad 1)), (2, .ref (ad 2)), (3, .ref (ad 3)), (4, .ref (ad 4))]) hl [0, 2, 3, 4, 5, 6] rfl
                          have hP := fP.eqc (congrArg (fun v9 => lwc ct v9 r) (show (upd (upd (upd (metS (warmS (shdS Z n 4) n 4) i) (39 + 8 * i + 6) (((metS (warmS (shdS Z n 4) n 4) i) (39 + 8 * i + 6)) + ((metS (warmS (shdS Z n 4) n 4) i) (39 + 8 * i + 0)))) (39 + 8 * i + 7) (((upd (metS (warmS (shdS Z n 4) n 4) i) (39 + 8 * i + 6) (((metS (warmS (shdS Z n 4) n 4) i) (39 + 8 * i + 6)) + ((metS (warmS (shdS Z n 4) n 4) i) (39 + 8 * i + 0)))) (39 + 8 * i + 7)) + (nI 1))) (6) (((upd (upd (metS (warmS (shdS Z n 4) n 4) i) (39 + 8 * i + 6) (((metS (warmS (shdS Z n 4) n 4) i) (39 + 8 * i + 6)) + ((metS (warmS (shdS Z n 4) n 4) i) (39 + 8 * i + 0)))) (39 + 8 * i + 7) (((upd (metS (warmS (shdS Z n 4) n 4) i) (39 + 8 * i + 6) (((metS (warmS (shdS Z n 4) n 4) i) (39 + 8 * i + 6)) + ((metS (warmS (shdS Z n 4) n 4) i) (39 + 8 * i + 0)))) (39 + 8 * i + 7)) + (nI 1))) 6) + (nI 1))) = (metS (warmS (shdS Z n 4) n 4) (i + 1)) from by first | (exfalso; omega) | (simp only [metS, meterZ, mt2, mt1, c6, Nat.not_lt.mpr c6, c201, Nat.not_lt.mpr c201, c349, Nat.not_le.mpr c349, c373, c401, Nat.not_le.mpr c401, c419, decide_true, decide_false, Bool.and_true, Bool.true_and, Bool.and_false, Bool.false_and, Bool.or_true, Bool.true_or, Bool.or_false, Bool.false_or, Bool.and_self, Bool.or_self, if_true, if_false, eq_self, Bool.false_eq_true, Bool.true_eq_false, reduceCtorEq, nI_0, not_true_eq_false, not_false_eq_true, and_true, true_and, and_false, false_and, or_true, true_or, or_false, false_or, and_self, or_self, Int32.add_zero]; done) | (simp [metS, meterZ, mt2, mt1, c6, Nat.not_lt.mpr c6, c201, Nat.not_lt.mpr c201, c349, Nat.not_le.mpr c349, c373, c401, Nat.not_le.mpr c401, c419]; done))) hP
                          exact ih343 (i + 1) (by omega) (by omega) _ _ hP hS _ hl
              have hl := lv_sub (l' := [(5, .int (nI 0)), (0, .ref (ad 0)), (1, .ref (ad 1)), (2, .ref (ad 2)), (3, .ref (ad 3)), (4, .ref (ad 4))]) hl [0, 1, 2, 3, 4, 5] rfl
              have hP := fP.eqc (congrArg (fun v9 => lwc ct v9 r) (show (warmS (shdS Z n 4) n 4) = (metS (warmS (shdS Z n 4) n 4) 0) from by rfl)) hP
              exact lp343 (n - 0 + 1) 0 (by omega) (Nat.lt_succ_self _) _ _ hP hS _ hl
            · refine lv_aload_n hx hb dL_hour_204 rfl (lv_at hl 1 rfl) ?_
              refine lv_aload_n hx hb dL_hour_205 rfl (lv_at hl 3 rfl) ?_
              refine lv_aload_n hx hb dL_hour_206 rfl (lv_at hl 4 rfl) ?_
              refine lv_aload hx hb dL_hour_207 (lv_at hl 5 rfl) ?_
              refine lv_iload hx hb dL_hour_209 (lv_at hl 0 rfl) ?_
              refine lw_cr (As := [.ref (ad 0), .ref (ad 2), .ref (ad 3), .ref (ad 4), .int (nI i)]) (rest := []) hx hb hown htg hK hI hS hP (fun _ h => fA_in h) hml hl.1 (mL_carries l D ct ad _ _ i n (warmS_lG (shdS_lG hg (by omega)) (by omega)) (by omega)) cw_L_24 rfl rfl ⟨Nat.le_of_ble_eq_true rfl, Nat.le_of_ble_eq_true rfl⟩ (Nat.le_of_ble_eq_true rfl) dL_hour_211 ⟨Nat.le_refl _, Nat.le_refl _⟩ (fun H locs hP hS => ?_)
              refine lv_istore (lv' := [(6, .int (carS (warmS (shdS Z n 4) n i) i n)), (5, .int (nI i)), (0, .ref (ad 0)), (1, .ref (ad 1)), (2, .ref (ad 2)), (3, .ref (ad 3)), (4, .ref (ad 4))]) hx hb dL_hour_214 hl (by decide) rfl (fun ls hl => ?_)
              refine lv_aload_n hx hb dL_hour_216 rfl (lv_at hl 4 rfl) ?_
              refine lv_iconst (v := nI 5) hx hb dL_hour_217 (by decide) ?_
              refine lv_iload hx hb dL_hour_218 (lv_at hl 1 rfl) ?_
              refine lv_imulN hx hb dL_hour_220 ?_
              refine lv_iconst (v := nI 1) hx hb dL_hour_221 (by decide) ?_
              refine lv_iaddN hx hb dL_hour_222 ?_
              refine lw_l2 hx hb hK hP (by omega) dL_hour_223 ?_
              refine lv_teq (vwB_at (by omega) (by omega)) ?_
              refine lv_iconst (v := nI 1) hx hb dL_hour_224 (by decide) ?_
              refine lv_icmp_ne (tgt := 243) hx hb dL_hour_225 (by decide) (fun c225 => ?_) (fun c225 => ?_)
              · refine lv_iconst (v := nI 0) hx hb dL_hour_243 (by decide) ?_
                refine lv_istore (lv' := [(7, .int (nI 0)), (6, .int (carS (warmS (shdS Z n 4) n i) i n)), (5, .int (nI i)), (0, .ref (ad 0)), (1, .ref (ad 1)), (2, .ref (ad 2)), (3, .ref (ad 3)), (4, .ref (ad 4))]) hx hb dL_hour_244 hl (by decide) rfl (fun ls hl => ?_)
                refine lv_aload_n hx hb dL_hour_246 rfl (lv_at hl 5 rfl) ?_
                refine lv_iconst (v := nI 5) hx hb dL_hour_247 (by decide) ?_
                refine lv_iload hx hb dL_hour_248 (lv_at hl 2 rfl) ?_
                refine lv_imulN hx hb dL_hour_250 ?_
                refine lv_iconst (v := nI 2) hx hb dL_hour_251 (by decide) ?_
                refine lv_iaddN hx hb dL_hour_252 ?_
                refine lw_l2 hx hb hK hP (by omega) dL_hour_253 ?_
                refine lv_teq (vwB_at (by omega) (by omega)) ?_
                refine lv_aload hx hb dL_hour_254 (lv_at hl 7 rfl) ?_
                refine lv_iconst (v := nI 0) hx hb dL_hour_256 (by decide) ?_
                refine lw_l4 hx hb hK hP (by omega) dL_hour_257 ?_
                refine lv_teq (vwT_at (by omega)) ?_
                refine lv_icmp_leR (tgt := 277) hx hb dL_hour_258 (by decide) (fun c258 => ?_) (fun c258 => ?_)
                · refine lv_iconst (v := nI 0) hx hb dL_hour_277 (by decide) ?_
                  refine lv_istore (lv' := [(8, .int (nI 0)), (7, .int (nI 0)), (6, .int (carS (warmS (shdS Z n 4) n i) i n)), (5, .int (nI i)), (0, .ref (ad 0)), (1, .ref (ad 1)), (2, .ref (ad 2)), (3, .ref (ad 3)), (4, .ref (ad 4))]) hx hb dL_hour_278 hl (by decide) rfl (fun ls hl => ?_)
                  refine lv_aload_n hx hb dL_hour_280 rfl (lv_at hl 6 rfl) ?_
                  refine lv_iconst (v := nI 5) hx hb dL_hour_281 (by decide) ?_
                  refine lv_iload hx hb dL_hour_282 (lv_at hl 3 rfl) ?_
                  refine lv_imulN hx hb dL_hour_284 ?_
                  refine lv_iconst (v := nI 2) hx hb dL_hour_285 (by decide) ?_
                  refine lv_iaddN hx hb dL_hour_286 ?_
                  refine lv_iload hx hb dL_hour_287 (lv_at hl 1 rfl) ?_
                  refine lv_if_eq (tgt := 318) hx hb dL_hour_289 (by decide) (fun _ => ?_) (fun h => absurd (by decide) h)
                  refine lv_iload hx hb dL_hour_318 (lv_at hl 0 rfl) ?_
                  refine lw_sB (by omega) (by omega) hx hb hK hP hI hS (fun _ h => fA_in h) dL_hour_320 (fun H locs hP hS => ?_)
                  refine lv_aload_n hx hb dL_hour_321 rfl (lv_at hl 6 rfl) ?_
                  refine lv_iconst (v := nI 5) hx hb dL_hour_322 (by decide) ?_
                  refine lv_iload hx hb dL_hour_323 (lv_at hl 3 rfl) ?_
                  refine lv_imulN hx hb dL_hour_325 ?_
                  refine lv_iconst (v := nI 4) hx hb dL_hour_326 (by decide) ?_
                  refine lv_iaddN hx hb dL_hour_327 ?_
                  refine lv_dup2_11 hx hb dL_hour_328 rfl rfl ?_
                  refine lw_l2 hx hb hK hP (by omega) dL_hour_329 ?_
                  refine lv_teq (vwB_at (by omega) (by omega)) ?_
                  refine lv_iload hx hb dL_hour_330 (lv_at hl 2 rfl) ?_
                  refine lv_iadd hx hb dL_hour_332 ?_
                  refine lw_sB (by omega) (by omega) hx hb hK hP hI hS (fun _ h => fA_in h) dL_hour_333 (fun H locs hP hS => ?_)
                  refine lv_iinc (v := nI (i + 1)) (lv' := [(5, .int (nI (i + 1))), (8, .int (nI 0)), (7, .int (nI 0)), (6, .int (carS (warmS (shdS Z n 4) n i) i n)), (0, .ref (ad 0)), (1, .ref (ad 1)), (2, .ref (ad 2)), (3, .ref (ad 3)), (4, .ref (ad 4))]) hx hb dL_hour_334 hl (k := 3) rfl (nI_add i 1) (by decide) rfl (fun ls hl => ?_)
                  refine lv_goto (tgt := 198) hx hb dL_hour_337 (by decide) ?_
                  have hl := lv_sub (l' := [(5, .int (nI (i + 1))), (0, .ref (ad 0)), (1, .ref (ad 1)), (2, .ref (ad 2)), (3, .ref (ad 3)), (4, .ref (ad 4))]) hl [0, 4, 5, 6, 7, 8] rfl
                  have hP := fP.eqc (congrArg (fun v9 => lwc ct v9 r) (show (upd (upd (warmS (shdS Z n 4) n i) (7 + 5 * i + 2) (nI 0)) (7 + 5 * i + 4) (((upd (warmS (shdS Z n 4) n i) (7 + 5 * i + 2) (nI 0)) (7 + 5 * i + 4)) + (carS (warmS (shdS Z n 4) n i) i n))) = (warmS (shdS Z n 4) n (i + 1)) from by exact wm_law (oI_zW hWO) (by omega) (by first | exact ht_hot hWO (by omega) c225 c236 | exact ((ht_cl hWO (by omega) (by first | exact Or.inl c225 | exact Or.inr (Int32.not_lt.mpr c236))).trans (if_pos c258)).symm | exact ((ht_cl hWO (by omega) (by first | exact Or.inl c225 | exact Or.inr (Int32.not_lt.mpr c236))).trans (if_neg (Int32.not_lt.mpr c258))).symm))) hP
                  exact ih198 (i + 1) (by omega) (by omega) _ _ hP hS _ hl
                · refine lv_aload_n hx hb dL_hour_261 rfl (lv_at hl 5 rfl) ?_
                  refine lv_iconst (v := nI 5) hx hb dL_hour_262 (by decide) ?_
                  refine lv_iload hx hb dL_hour_263 (lv_at hl 2 rfl) ?_
                  refine lv_imulN hx hb dL_hour_265 ?_
                  refine lv_iconst (v := nI 2) hx hb dL_hour_266 (by decide) ?_
                  refine lv_iaddN hx hb dL_hour_267 ?_
                  refine lw_l2 hx hb hK hP (by omega) dL_hour_268 ?_
                  refine lv_teq (vwB_at (by omega) (by omega)) ?_
                  refine lv_aload hx hb dL_hour_269 (lv_at hl 7 rfl) ?_
                  refine lv_iconst (v := nI 0) hx hb dL_hour_271 (by decide) ?_
                  refine lw_l4 hx hb hK hP (by omega) dL_hour_272 ?_
                  refine lv_teq (vwT_at (by omega)) ?_
                  refine lv_isub hx hb dL_hour_273 ?_
                  refine lv_goto (tgt := 278) hx hb dL_hour_274 (by decide) ?_
                  refine lv_istore (lv' := [(8, .int (((warmS (shdS Z n 4) n i) (7 + 5 * i + 2)) - ((warmS (shdS Z n 4) n i) 0))), (7, .int (nI 0)), (6, .int (carS (warmS (shdS Z n 4) n i) i n)), (5, .int (nI i)), (0, .ref (ad 0)), (1, .ref (ad 1)), (2, .ref (ad 2)), (3, .ref (ad 3)), (4, .ref (ad 4))]) hx hb dL_hour_278 hl (by decide) rfl (fun ls hl => ?_)
                  refine lv_aload_n hx hb dL_hour_280 rfl (lv_at hl 6 rfl) ?_
                  refine lv_iconst (v := nI 5) hx hb dL_hour_281 (by decide) ?_
                  refine lv_iload hx hb dL_hour_282 (lv_at hl 3 rfl) ?_
                  refine lv_imulN hx hb dL_hour_284 ?_
                  refine lv_iconst (v := nI 2) hx hb dL_hour_285 (by decide) ?_
                  refine lv_iaddN hx hb dL_hour_286 ?_
                  refine lv_iload hx hb dL_hour_287 (lv_at hl 1 rfl) ?_
                  refine lv_if_eq (tgt := 318) hx hb dL_hour_289 (by decide) (fun _ => ?_) (fun h => absurd (by decide) h)
                  refine lv_iload hx hb dL_hour_318 (lv_at hl 0 rfl) ?_
                  refine lw_sB (by omega) (by omega) hx hb hK hP hI hS (fun _ h => fA_in h) dL_hour_320 (fun H locs hP hS => ?_)
                  refine lv_aload_n hx hb dL_hour_321 rfl (lv_at hl 6 rfl) ?_
                  refine lv_iconst (v := nI 5) hx hb dL_hour_322 (by decide) ?_
                  refine lv_iload hx hb dL_hour_323 (lv_at hl 3 rfl) ?_
                  refine lv_imulN hx hb dL_hour_325 ?_
                  refine lv_iconst (v := nI 4) hx hb dL_hour_326 (by decide) ?_
                  refine lv_iaddN hx hb dL_hour_327 ?_
                  refine lv_dup2_11 hx hb dL_hour_328 rfl rfl ?_
                  refine lw_l2 hx hb hK hP (by omega) dL_hour_329 ?_
                  refine lv_teq (vwB_at (by omega) (by omega)) ?_
                  refine lv_iload hx hb dL_hour_330 (lv_at hl 2 rfl) ?_
                  refine lv_iadd hx hb dL_hour_332 ?_
                  refine lw_sB (by omega) (by omega) hx hb hK hP hI hS (fun _ h => fA_in h) dL_hour_333 (fun H locs hP hS => ?_)
                  refine lv_iinc (v := nI (i + 1)) (lv' := [(5, .int (nI (i + 1))), (8, .int (((warmS (shdS Z n 4) n i) (7 + 5 * i + 2)) - ((warmS (shdS Z n 4) n i) 0))), (7, .int (nI 0)), (6, .int (carS (warmS (shdS Z n 4) n i) i n)), (0, .ref (ad 0)), (1, .ref (ad 1)), (2, .ref (ad 2)), (3, .ref (ad 3)), (4, .ref (ad 4))]) hx hb dL_hour_334 hl (k := 3) rfl (nI_add i 1) (by decide) rfl (fun ls hl => ?_)
                  refine lv_goto (tgt := 198) hx hb dL_hour_337 (by decide) ?_
                  have hl := lv_sub (l' := [(5, .int (nI (i + 1))), (0, .ref (ad 0)), (1, .ref (ad 1)), (2, .ref (ad 2)), (3, .ref (ad 3)), (4, .ref (ad 4))]) hl [0, 4, 5, 6, 7, 8] rfl
                  have hP := fP.eqc (congrArg (fun v9 => lwc ct v9 r) (show (upd (upd (warmS (shdS Z n 4) n i) (7 + 5 * i + 2) (((warmS (shdS Z n 4) n i) (7 + 5 * i + 2)) - ((warmS (shdS Z n 4) n i) 0))) (7 + 5 * i + 4) (((upd (warmS (shdS Z n 4) n i) (7 + 5 * i + 2) (((warmS (shdS Z n 4) n i) (7 + 5 * i + 2)) - ((warmS (shdS Z n 4) n i) 0))) (7 + 5 * i + 4)) + (carS (warmS (shdS Z n 4) n i) i n))) = (warmS (shdS Z n 4) n (i + 1)) from by exact wm_law (oI_zW hWO) (by omega) (by first | exact ht_hot hWO (by omega) c225 c236 | exact ((ht_cl hWO (by omega) (by first | exact Or.inl c225 | exact Or.inr (Int32.not_lt.mpr c236))).trans (if_pos c258)).symm | exact ((ht_cl hWO (by omega) (by first | exact Or.inl c225 | exact Or.inr (Int32.not_lt.mpr c236))).trans (if_neg (Int32.not_lt.mpr c258))).symm))) hP
                  exact ih198 (i + 1) (by omega) (by omega) _ _ hP hS _ hl
              · refine lv_iload hx hb dL_hour_228 (lv_at hl 0 rfl) ?_
                refine lv_aload_n hx hb dL_hour_230 rfl (lv_at hl 4 rfl) ?_
                refine lv_iconst (v := nI 5) hx hb dL_hour_231 (by decide) ?_
                refine lv_iload hx hb dL_hour_232 (lv_at hl 1 rfl) ?_
                refine lv_imulN hx hb dL_hour_234 ?_
                refine lw_l2 hx hb hK hP (by omega) dL_hour_235 ?_
                refine lv_teq (vwB_a0 (by omega)) ?_
                refine lv_icmp_leR (tgt := 243) hx hb dL_hour_236 (by decide) (fun c236 => ?_) (fun c236 => ?_)
                · refine lv_iconst (v := nI 0) hx hb dL_hour_243 (by decide) ?_
                  refine lv_istore (lv' := [(7, .int (nI 0)), (6, .int (carS (warmS (shdS Z n 4) n i) i n)), (5, .int (nI i)), (0, .ref (ad 0)), (1, .ref (ad 1)), (2, .ref (ad 2)), (3, .ref (ad 3)), (4, .ref (ad 4))]) hx hb dL_hour_244 hl (by decide) rfl (fun ls hl => ?_)
                  refine lv_aload_n hx hb dL_hour_246 rfl (lv_at hl 5 rfl) ?_
                  refine lv_iconst (v := nI 5) hx hb dL_hour_247 (by decide) ?_
                  refine lv_iload hx hb dL_hour_248 (lv_at hl 2 rfl) ?_
                  refine lv_imulN hx hb dL_hour_250 ?_
                  refine lv_iconst (v := nI 2) hx hb dL_hour_251 (by decide) ?_
                  refine lv_iaddN hx hb dL_hour_252 ?_
                  refine lw_l2 hx hb hK hP (by omega) dL_hour_253 ?_
                  refine lv_teq (vwB_at (by omega) (by omega)) ?_
                  refine lv_aload hx hb dL_hour_254 (lv_at hl 7 rfl) ?_
                  refine lv_iconst (v := nI 0) hx hb dL_hour_256 (by decide) ?_
                  refine lw_l4 hx hb hK hP (by omega) dL_hour_257 ?_
                  refine lv_teq (vwT_at (by omega)) ?_
                  refine lv_icmp_leR (tgt := 277) hx hb dL_hour_258 (by decide) (fun c258 => ?_) (fun c258 => ?_)
                  · refine lv_iconst (v := nI 0) hx hb dL_hour_277 (by decide) ?_
                    refine lv_istore (lv' := [(8, .int (nI 0)), (7, .int (nI 0)), (6, .int (carS (warmS (shdS Z n 4) n i) i n)), (5, .int (nI i)), (0, .ref (ad 0)), (1, .ref (ad 1)), (2, .ref (ad 2)), (3, .ref (ad 3)), (4, .ref (ad 4))]) hx hb dL_hour_278 hl (by decide) rfl (fun ls hl => ?_)
                    refine lv_aload_n hx hb dL_hour_280 rfl (lv_at hl 6 rfl) ?_
                    refine lv_iconst (v := nI 5) hx hb dL_hour_281 (by decide) ?_
                    refine lv_iload hx hb dL_hour_282 (lv_at hl 3 rfl) ?_
                    refine lv_imulN hx hb dL_hour_284 ?_
                    refine lv_iconst (v := nI 2) hx hb dL_hour_285 (by decide) ?_
                    refine lv_iaddN hx hb dL_hour_286 ?_
                    refine lv_iload hx hb dL_hour_287 (lv_at hl 1 rfl) ?_
                    refine lv_if_eq (tgt := 318) hx hb dL_hour_289 (by decide) (fun _ => ?_) (fun h => absurd (by decide) h)
                    refine lv_iload hx hb dL_hour_318 (lv_at hl 0 rfl) ?_
                    refine lw_sB (by omega) (by omega) hx hb hK hP hI hS (fun _ h => fA_in h) dL_hour_320 (fun H locs hP hS => ?_)
                    refine lv_aload_n hx hb dL_hour_321 rfl (lv_at hl 6 rfl) ?_
                    refine lv_iconst (v := nI 5) hx hb dL_hour_322 (by decide) ?_
                    refine lv_iload hx hb dL_hour_323 (lv_at hl 3 rfl) ?_
                    refine lv_imulN hx hb dL_hour_325 ?_
                    refine lv_iconst (v := nI 4) hx hb dL_hour_326 (by decide) ?_
                    refine lv_iaddN hx hb dL_hour_327 ?_
                    refine lv_dup2_11 hx hb dL_hour_328 rfl rfl ?_
                    refine lw_l2 hx hb hK hP (by omega) dL_hour_329 ?_
                    refine lv_teq (vwB_at (by omega) (by omega)) ?_
                    refine lv_iload hx hb dL_hour_330 (lv_at hl 2 rfl) ?_
                    refine lv_iadd hx hb dL_hour_332 ?_
                    refine lw_sB (by omega) (by omega) hx hb hK hP hI hS (fun _ h => fA_in h) dL_hour_333 (fun H locs hP hS => ?_)
                    refine lv_iinc (v := nI (i + 1)) (lv' := [(5, .int (nI (i + 1))), (8, .int (nI 0)), (7, .int (nI 0)), (6, .int (carS (warmS (shdS Z n 4) n i) i n)), (0, .ref (ad 0)), (1, .ref (ad 1)), (2, .ref (ad 2)), (3, .ref (ad 3)), (4, .ref (ad 4))]) hx hb dL_hour_334 hl (k := 3) rfl (nI_add i 1) (by decide) rfl (fun ls hl => ?_)
                    refine lv_goto (tgt := 198) hx hb dL_hour_337 (by decide) ?_
                    have hl := lv_sub (l' := [(5, .int (nI (i + 1))), (0, .ref (ad 0)), (1, .ref (ad 1)), (2, .ref (ad 2)), (3, .ref (ad 3)), (4, .ref (ad 4))]) hl [0, 4, 5, 6, 7, 8] rfl
                    have hP := fP.eqc (congrArg (fun v9 => lwc ct v9 r) (show (upd (upd (warmS (shdS Z n 4) n i) (7 + 5 * i + 2) (nI 0)) (7 + 5 * i + 4) (((upd (warmS (shdS Z n 4) n i) (7 + 5 * i + 2) (nI 0)) (7 + 5 * i + 4)) + (carS (warmS (shdS Z n 4) n i) i n))) = (warmS (shdS Z n 4) n (i + 1)) from by exact wm_law (oI_zW hWO) (by omega) (by first | exact ht_hot hWO (by omega) c225 c236 | exact ((ht_cl hWO (by omega) (by first | exact Or.inl c225 | exact Or.inr (Int32.not_lt.mpr c236))).trans (if_pos c258)).symm | exact ((ht_cl hWO (by omega) (by first | exact Or.inl c225 | exact Or.inr (Int32.not_lt.mpr c236))).trans (if_neg (Int32.not_lt.mpr c258))).symm))) hP
                    exact ih198 (i + 1) (by omega) (by omega) _ _ hP hS _ hl
                  · refine lv_aload_n hx hb dL_hour_261 rfl (lv_at hl 5 rfl) ?_
                    refine lv_iconst (v := nI 5) hx hb dL_hour_262 (by decide) ?_
                    refine lv_iload hx hb dL_hour_263 (lv_at hl 2 rfl) ?_
                    refine lv_imulN hx hb dL_hour_265 ?_
                    refine lv_iconst (v := nI 2) hx hb dL_hour_266 (by decide) ?_
                    refine lv_iaddN hx hb dL_hour_267 ?_
                    refine lw_l2 hx hb hK hP (by omega) dL_hour_268 ?_
                    refine lv_teq (vwB_at (by omega) (by omega)) ?_
                    refine lv_aload hx hb dL_hour_269 (lv_at hl 7 rfl) ?_
                    refine lv_iconst (v := nI 0) hx hb dL_hour_271 (by decide) ?_
                    refine lw_l4 hx hb hK hP (by omega) dL_hour_272 ?_
                    refine lv_teq (vwT_at (by omega)) ?_
                    refine lv_isub hx hb dL_hour_273 ?_
                    refine lv_goto (tgt := 278) hx hb dL_hour_274 (by decide) ?_
                    refine lv_istore (lv' := [(8, .int (((warmS (shdS Z n 4) n i) (7 + 5 * i + 2)) - ((warmS (shdS Z n 4) n i) 0))), (7, .int (nI 0)), (6, .int (carS (warmS (shdS Z n 4) n i) i n)), (5, .int (nI i)), (0, .ref (ad 0)), (1, .ref (ad 1)), (2, .ref (ad 2)), (3, .ref (ad 3)), (4, .ref (ad 4))]) hx hb dL_hour_278 hl (by decide) rfl (fun ls hl => ?_)
                    refine lv_aload_n hx hb dL_hour_280 rfl (lv_at hl 6 rfl) ?_
                    refine lv_iconst (v := nI 5) hx hb dL_hour_281 (by decide) ?_
                    refine lv_iload hx hb dL_hour_282 (lv_at hl 3 rfl) ?_
                    refine lv_imulN hx hb dL_hour_284 ?_
                    refine lv_iconst (v := nI 2) hx hb dL_hour_285 (by decide) ?_
                    refine lv_iaddN hx hb dL_hour_286 ?_
                    refine lv_iload hx hb dL_hour_287 (lv_at hl 1 rfl) ?_
                    refine lv_if_eq (tgt := 318) hx hb dL_hour_289 (by decide) (fun _ => ?_) (fun h => absurd (by decide) h)
                    refine lv_iload hx hb dL_hour_318 (lv_at hl 0 rfl) ?_
                    refine lw_sB (by omega) (by omega) hx hb hK hP hI hS (fun _ h => fA_in h) dL_hour_320 (fun H locs hP hS => ?_)
                    refine lv_aload_n hx hb dL_hour_321 rfl (lv_at hl 6 rfl) ?_
                    refine lv_iconst (v := nI 5) hx hb dL_hour_322 (by decide) ?_
                    refine lv_iload hx hb dL_hour_323 (lv_at hl 3 rfl) ?_
                    refine lv_imulN hx hb dL_hour_325 ?_
                    refine lv_iconst (v := nI 4) hx hb dL_hour_326 (by decide) ?_
                    refine lv_iaddN hx hb dL_hour_327 ?_
                    refine lv_dup2_11 hx hb dL_hour_328 rfl rfl ?_
                    refine lw_l2 hx hb hK hP (by omega) dL_hour_329 ?_
                    refine lv_teq (vwB_at (by omega) (by omega)) ?_
                    refine lv_iload hx hb dL_hour_330 (lv_at hl 2 rfl) ?_
                    refine lv_iadd hx hb dL_hour_332 ?_
                    refine lw_sB (by omega) (by omega) hx hb hK hP hI hS (fun _ h => fA_in h) dL_hour_333 (fun H locs hP hS => ?_)
                    refine lv_iinc (v := nI (i + 1)) (lv' := [(5, .int (nI (i + 1))), (8, .int (((warmS (shdS Z n 4) n i) (7 + 5 * i + 2)) - ((warmS (shdS Z n 4) n i) 0))), (7, .int (nI 0)), (6, .int (carS (warmS (shdS Z n 4) n i) i n)), (0, .ref (ad 0)), (1, .ref (ad 1)), (2, .ref (ad 2)), (3, .ref (ad 3)), (4, .ref (ad 4))]) hx hb dL_hour_334 hl (k := 3) rfl (nI_add i 1) (by decide) rfl (fun ls hl => ?_)
                    refine lv_goto (tgt := 198) hx hb dL_hour_337 (by decide) ?_
                    have hl := lv_sub (l' := [(5, .int (nI (i + 1))), (0, .ref (ad 0)), (1, .ref (ad 1)), (2, .ref (ad 2)), (3, .ref (ad 3)), (4, .ref (ad 4))]) hl [0, 4, 5, 6, 7, 8] rfl
                    have hP := fP.eqc (congrArg (fun v9 => lwc ct v9 r) (show (upd (upd (warmS (shdS Z n 4) n i) (7 + 5 * i + 2) (((warmS (shdS Z n 4) n i) (7 + 5 * i + 2)) - ((warmS (shdS Z n 4) n i) 0))) (7 + 5 * i + 4) (((upd (warmS (shdS Z n 4) n i) (7 + 5 * i + 2) (((warmS (shdS Z n 4) n i) (7 + 5 * i + 2)) - ((warmS (shdS Z n 4) n i) 0))) (7 + 5 * i + 4)) + (carS (warmS (shdS Z n 4) n i) i n))) = (warmS (shdS Z n 4) n (i + 1)) from by exact wm_law (oI_zW hWO) (by omega) (by first | exact ht_hot hWO (by omega) c225 c236 | exact ((ht_cl hWO (by omega) (by first | exact Or.inl c225 | exact Or.inr (Int32.not_lt.mpr c236))).trans (if_pos c258)).symm | exact ((ht_cl hWO (by omega) (by first | exact Or.inl c225 | exact Or.inr (Int32.not_lt.mpr c236))).trans (if_neg (Int32.not_lt.mpr c258))).symm))) hP
                    exact ih198 (i + 1) (by omega) (by omega) _ _ hP hS _ hl
                · refine lv_iconst (v := nI 1) hx hb dL_hour_239 (by decide) ?_
                  refine lv_goto (tgt := 244) hx hb dL_hour_240 (by decide) ?_
                  refine lv_istore (lv' := [(7, .int (nI 1)), (6, .int (carS (warmS (shdS Z n 4) n i) i n)), (5, .int (nI i)), (0, .ref (ad 0)), (1, .ref (ad 1)), (2, .ref (ad 2)), (3, .ref (ad 3)), (4, .ref (ad 4))]) hx hb dL_hour_244 hl (by decide) rfl (fun ls hl => ?_)
                  refine lv_aload_n hx hb dL_hour_246 rfl (lv_at hl 5 rfl) ?_
                  refine lv_iconst (v := nI 5) hx hb dL_hour_247 (by decide) ?_
                  refine lv_iload hx hb dL_hour_248 (lv_at hl 2 rfl) ?_
                  refine lv_imulN hx hb dL_hour_250 ?_
                  refine lv_iconst (v := nI 2) hx hb dL_hour_251 (by decide) ?_
                  refine lv_iaddN hx hb dL_hour_252 ?_
                  refine lw_l2 hx hb hK hP (by omega) dL_hour_253 ?_
                  refine lv_teq (vwB_at (by omega) (by omega)) ?_
                  refine lv_aload hx hb dL_hour_254 (lv_at hl 7 rfl) ?_
                  refine lv_iconst (v := nI 0) hx hb dL_hour_256 (by decide) ?_
                  refine lw_l4 hx hb hK hP (by omega) dL_hour_257 ?_
                  refine lv_teq (vwT_at (by omega)) ?_
                  refine lv_icmp_leR (tgt := 277) hx hb dL_hour_258 (by decide) (fun c258 => ?_) (fun c258 => ?_)
                  · refine lv_iconst (v := nI 0) hx hb dL_hour_277 (by decide) ?_
                    refine lv_istore (lv' := [(8, .int (nI 0)), (7, .int (nI 1)), (6, .int (carS (warmS (shdS Z n 4) n i) i n)), (5, .int (nI i)), (0, .ref (ad 0)), (1, .ref (ad 1)), (2, .ref (ad 2)), (3, .ref (ad 3)), (4, .ref (ad 4))]) hx hb dL_hour_278 hl (by decide) rfl (fun ls hl => ?_)
                    refine lv_aload_n hx hb dL_hour_280 rfl (lv_at hl 6 rfl) ?_
                    refine lv_iconst (v := nI 5) hx hb dL_hour_281 (by decide) ?_
                    refine lv_iload hx hb dL_hour_282 (lv_at hl 3 rfl) ?_
                    refine lv_imulN hx hb dL_hour_284 ?_
                    refine lv_iconst (v := nI 2) hx hb dL_hour_285 (by decide) ?_
                    refine lv_iaddN hx hb dL_hour_286 ?_
                    refine lv_iload hx hb dL_hour_287 (lv_at hl 1 rfl) ?_
                    refine lv_if_eq (tgt := 318) hx hb dL_hour_289 (by decide) (fun h => absurd h (by decide)) (fun _ => ?_)
                    refine lv_aload_n hx hb dL_hour_292 rfl (lv_at hl 6 rfl) ?_
                    refine lv_iconst (v := nI 5) hx hb dL_hour_293 (by decide) ?_
                    refine lv_iload hx hb dL_hour_294 (lv_at hl 3 rfl) ?_
                    refine lv_imulN hx hb dL_hour_296 ?_
                    refine lv_iconst (v := nI 2) hx hb dL_hour_297 (by decide) ?_
                    refine lv_iaddN hx hb dL_hour_298 ?_
                    refine lw_l2 hx hb hK hP (by omega) dL_hour_299 ?_
                    refine lv_teq (vwB_at (by omega) (by omega)) ?_
                    refine lv_iload hx hb dL_hour_300 (lv_at hl 2 rfl) ?_
                    refine lv_aload_n hx hb dL_hour_302 rfl (lv_at hl 6 rfl) ?_
                    refine lv_iconst (v := nI 5) hx hb dL_hour_303 (by decide) ?_
                    refine lv_iload hx hb dL_hour_304 (lv_at hl 3 rfl) ?_
                    refine lv_imulN hx hb dL_hour_306 ?_
                    refine lw_l2 hx hb hK hP (by omega) dL_hour_307 ?_
                    refine lv_teq (vwB_a0 (by omega)) ?_
                    refine lv_isub hx hb dL_hour_308 ?_
                    refine lv_bipush (v := nI 10) hx hb dL_hour_309 (by decide) ?_
                    refine lv_idiv hx hb dL_hour_311 (by decide) ?_
                    refine lv_iadd hx hb dL_hour_312 ?_
                    refine lv_iconst (v := nI 1) hx hb dL_hour_313 (by decide) ?_
                    refine lv_iadd hx hb dL_hour_314 ?_
                    refine lv_goto (tgt := 320) hx hb dL_hour_315 (by decide) ?_
                    refine lw_sB (by omega) (by omega) hx hb hK hP hI hS (fun _ h => fA_in h) dL_hour_320 (fun H locs hP hS => ?_)
                    refine lv_aload_n hx hb dL_hour_321 rfl (lv_at hl 6 rfl) ?_
                    refine lv_iconst (v := nI 5) hx hb dL_hour_322 (by decide) ?_
                    refine lv_iload hx hb dL_hour_323 (lv_at hl 3 rfl) ?_
                    refine lv_imulN hx hb dL_hour_325 ?_
                    refine lv_iconst (v := nI 4) hx hb dL_hour_326 (by decide) ?_
                    refine lv_iaddN hx hb dL_hour_327 ?_
                    refine lv_dup2_11 hx hb dL_hour_328 rfl rfl ?_
                    refine lw_l2 hx hb hK hP (by omega) dL_hour_329 ?_
                    refine lv_teq (vwB_at (by omega) (by omega)) ?_
                    refine lv_iload hx hb dL_hour_330 (lv_at hl 2 rfl) ?_
                    refine lv_iadd hx hb dL_hour_332 ?_
                    refine lw_sB (by omega) (by omega) hx hb hK hP hI hS (fun _ h => fA_in h) dL_hour_333 (fun H locs hP hS => ?_)
                    refine lv_iinc (v := nI (i + 1)) (lv' := [(5, .int (nI (i + 1))), (8, .int (nI 0)), (7, .int (nI 1)), (6, .int (carS (warmS (shdS Z n 4) n i) i n)), (0, .ref (ad 0)), (1, .ref (ad 1)), (2, .ref (ad 2)), (3, .ref (ad 3)), (4, .ref (ad 4))]) hx hb dL_hour_334 hl (k := 3) rfl (nI_add i 1) (by decide) rfl (fun ls hl => ?_)
                    refine lv_goto (tgt := 198) hx hb dL_hour_337 (by decide) ?_
                    have hl := lv_sub (l' := [(5, .int (nI (i + 1))), (0, .ref (ad 0)), (1, .ref (ad 1)), (2, .ref (ad 2)), (3, .ref (ad 3)), (4, .ref (ad 4))]) hl [0, 4, 5, 6, 7, 8] rfl
                    have hP := fP.eqc (congrArg (fun v9 => lwc ct v9 r) (show (upd (upd (warmS (shdS Z n 4) n i) (7 + 5 * i + 2) ((((warmS (shdS Z n 4) n i) (7 + 5 * i + 2)) + (((carS (warmS (shdS Z n 4) n i) i n) - ((warmS (shdS Z n 4) n i) (7 + 5 * i + 0))) / (nI 10))) + (nI 1))) (7 + 5 * i + 4) (((upd (warmS (shdS Z n 4) n i) (7 + 5 * i + 2) ((((warmS (shdS Z n 4) n i) (7 + 5 * i + 2)) + (((carS (warmS (shdS Z n 4) n i) i n) - ((warmS (shdS Z n 4) n i) (7 + 5 * i + 0))) / (nI 10))) + (nI 1))) (7 + 5 * i + 4)) + (carS (warmS (shdS Z n 4) n i) i n))) = (warmS (shdS Z n 4) n (i + 1)) from by exact wm_law (oI_zW hWO) (by omega) (by first | exact ht_hot hWO (by omega) c225 c236 | exact ((ht_cl hWO (by omega) (by first | exact Or.inl c225 | exact Or.inr (Int32.not_lt.mpr c236))).trans (if_pos c258)).symm | exact ((ht_cl hWO (by omega) (by first | exact Or.inl c225 | exact Or.inr (Int32.not_lt.mpr c236))).trans (if_neg (Int32.not_lt.mpr c258))).symm))) hP
                    exact ih198 (i + 1) (by omega) (by omega) _ _ hP hS _ hl
                  · refine lv_aload_n hx hb dL_hour_261 rfl (lv_at hl 5 rfl) ?_
                    refine lv_iconst (v := nI 5) hx hb dL_hour_262 (by decide) ?_
                    refine lv_iload hx hb dL_hour_263 (lv_at hl 2 rfl) ?_
                    refine lv_imulN hx hb dL_hour_265 ?_
                    refine lv_iconst (v := nI 2) hx hb dL_hour_266 (by decide) ?_
                    refine lv_iaddN hx hb dL_hour_267 ?_
                    refine lw_l2 hx hb hK hP (by omega) dL_hour_268 ?_
                    refine lv_teq (vwB_at (by omega) (by omega)) ?_
                    refine lv_aload hx hb dL_hour_269 (lv_at hl 7 rfl) ?_
                    refine lv_iconst (v := nI 0) hx hb dL_hour_271 (by decide) ?_
                    refine lw_l4 hx hb hK hP (by omega) dL_hour_272 ?_
                    refine lv_teq (vwT_at (by omega)) ?_
                    refine lv_isub hx hb dL_hour_273 ?_
                    refine lv_goto (tgt := 278) hx hb dL_hour_274 (by decide) ?_
                    refine lv_istore (lv' := [(8, .int (((warmS (shdS Z n 4) n i) (7 + 5 * i + 2)) - ((warmS (shdS Z n 4) n i) 0))), (7, .int (nI 1)), (6, .int (carS (warmS (shdS Z n 4) n i) i n)), (5, .int (nI i)), (0, .ref (ad 0)), (1, .ref (ad 1)), (2, .ref (ad 2)), (3, .ref (ad 3)), (4, .ref (ad 4))]) hx hb dL_hour_278 hl (by decide) rfl (fun ls hl => ?_)
                    refine lv_aload_n hx hb dL_hour_280 rfl (lv_at hl 6 rfl) ?_
                    refine lv_iconst (v := nI 5) hx hb dL_hour_281 (by decide) ?_
                    refine lv_iload hx hb dL_hour_282 (lv_at hl 3 rfl) ?_
                    refine lv_imulN hx hb dL_hour_284 ?_
                    refine lv_iconst (v := nI 2) hx hb dL_hour_285 (by decide) ?_
                    refine lv_iaddN hx hb dL_hour_286 ?_
                    refine lv_iload hx hb dL_hour_287 (lv_at hl 1 rfl) ?_
                    refine lv_if_eq (tgt := 318) hx hb dL_hour_289 (by decide) (fun h => absurd h (by decide)) (fun _ => ?_)
                    refine lv_aload_n hx hb dL_hour_292 rfl (lv_at hl 6 rfl) ?_
                    refine lv_iconst (v := nI 5) hx hb dL_hour_293 (by decide) ?_
                    refine lv_iload hx hb dL_hour_294 (lv_at hl 3 rfl) ?_
                    refine lv_imulN hx hb dL_hour_296 ?_
                    refine lv_iconst (v := nI 2) hx hb dL_hour_297 (by decide) ?_
                    refine lv_iaddN hx hb dL_hour_298 ?_
                    refine lw_l2 hx hb hK hP (by omega) dL_hour_299 ?_
                    refine lv_teq (vwB_at (by omega) (by omega)) ?_
                    refine lv_iload hx hb dL_hour_300 (lv_at hl 2 rfl) ?_
                    refine lv_aload_n hx hb dL_hour_302 rfl (lv_at hl 6 rfl) ?_
                    refine lv_iconst (v := nI 5) hx hb dL_hour_303 (by decide) ?_
                    refine lv_iload hx hb dL_hour_304 (lv_at hl 3 rfl) ?_
                    refine lv_imulN hx hb dL_hour_306 ?_
                    refine lw_l2 hx hb hK hP (by omega) dL_hour_307 ?_
                    refine lv_teq (vwB_a0 (by omega)) ?_
                    refine lv_isub hx hb dL_hour_308 ?_
                    refine lv_bipush (v := nI 10) hx hb dL_hour_309 (by decide) ?_
                    refine lv_idiv hx hb dL_hour_311 (by decide) ?_
                    refine lv_iadd hx hb dL_hour_312 ?_
                    refine lv_iconst (v := nI 1) hx hb dL_hour_313 (by decide) ?_
                    refine lv_iadd hx hb dL_hour_314 ?_
                    refine lv_goto (tgt := 320) hx hb dL_hour_315 (by decide) ?_
                    refine lw_sB (by omega) (by omega) hx hb hK hP hI hS (fun _ h => fA_in h) dL_hour_320 (fun H locs hP hS => ?_)
                    refine lv_aload_n hx hb dL_hour_321 rfl (lv_at hl 6 rfl) ?_
                    refine lv_iconst (v := nI 5) hx hb dL_hour_322 (by decide) ?_
                    refine lv_iload hx hb dL_hour_323 (lv_at hl 3 rfl) ?_
                    refine lv_imulN hx hb dL_hour_325 ?_
                    refine lv_iconst (v := nI 4) hx hb dL_hour_326 (by decide) ?_
                    refine lv_iaddN hx hb dL_hour_327 ?_
                    refine lv_dup2_11 hx hb dL_hour_328 rfl rfl ?_
                    refine lw_l2 hx hb hK hP (by omega) dL_hour_329 ?_
                    refine lv_teq (vwB_at (by omega) (by omega)) ?_
                    refine lv_iload hx hb dL_hour_330 (lv_at hl 2 rfl) ?_
                    refine lv_iadd hx hb dL_hour_332 ?_
                    refine lw_sB (by omega) (by omega) hx hb hK hP hI hS (fun _ h => fA_in h) dL_hour_333 (fun H locs hP hS => ?_)
                    refine lv_iinc (v := nI (i + 1)) (lv' := [(5, .int (nI (i + 1))), (8, .int (((warmS (shdS Z n 4) n i) (7 + 5 * i + 2)) - ((warmS (shdS Z n 4) n i) 0))), (7, .int (nI 1)), (6, .int (carS (warmS (shdS Z n 4) n i) i n)), (0, .ref (ad 0)), (1, .ref (ad 1)), (2, .ref (ad 2)), (3, .ref (ad 3)), (4, .ref (ad 4))]) hx hb dL_hour_334 hl (k := 3) rfl (nI_add i 1) (by decide) rfl (fun ls hl => ?_)
                    refine lv_goto (tgt := 198) hx hb dL_hour_337 (by decide) ?_
                    have hl := lv_sub (l' := [(5, .int (nI (i + 1))), (0, .ref (ad 0)), (1, .ref (ad 1)), (2, .ref (ad 2)), (3, .ref (ad 3)), (4, .ref (ad 4))]) hl [0, 4, 5, 6, 7, 8] rfl
                    have hP := fP.eqc (congrArg (fun v9 => lwc ct v9 r) (show (upd (upd (warmS (shdS Z n 4) n i) (7 + 5 * i + 2) ((((warmS (shdS Z n 4) n i) (7 + 5 * i + 2)) + (((carS (warmS (shdS Z n 4) n i) i n) - ((warmS (shdS Z n 4) n i) (7 + 5 * i + 0))) / (nI 10))) + (nI 1))) (7 + 5 * i + 4) (((upd (warmS (shdS Z n 4) n i) (7 + 5 * i + 2) ((((warmS (shdS Z n 4) n i) (7 + 5 * i + 2)) + (((carS (warmS (shdS Z n 4) n i) i n) - ((warmS (shdS Z n 4) n i) (7 + 5 * i + 0))) / (nI 10))) + (nI 1))) (7 + 5 * i + 4)) + (carS (warmS (shdS Z n 4) n i) i n))) = (warmS (shdS Z n 4) n (i + 1)) from by exact wm_law (oI_zW hWO) (by omega) (by first | exact ht_hot hWO (by omega) c225 c236 | exact ((ht_cl hWO (by omega) (by first | exact Or.inl c225 | exact Or.inr (Int32.not_lt.mpr c236))).trans (if_pos c258)).symm | exact ((ht_cl hWO (by omega) (by first | exact Or.inl c225 | exact Or.inr (Int32.not_lt.mpr c236))).trans (if_neg (Int32.not_lt.mpr c258))).symm))) hP
                    exact ih198 (i + 1) (by omega) (by omega) _ _ hP hS _ hl
        have hl := lv_sub (l' := [(5, .int (nI 0)), (0, .ref (ad 0)), (1, .ref (ad 1)), (2, .ref (ad 2)), (3, .ref (ad 3)), (4, .ref (ad 4))]) hl [0, 1, 2, 3, 4, 5] rfl
        have hP := fP.eqc (congrArg (fun v9 => lwc ct v9 r) (show (shdS Z n 4) = (warmS (shdS Z n 4) n 0) from by rfl)) hP
        exact lp198 (4 - 0 + 1) 0 (by omega) (Nat.lt_succ_self _) _ _ hP hS _ hl
      · have lp9 : ∀ (fu9 : Nat) (f : Nat) (X : Nat → Int32), lG r X n → oI X n → drN X i n ≤ f → shL i n f X = shL i n 10 (shdS Z n i) → f < fu9 → ∀ (H : Heap) (locs : List Loc), fP D 5 ad (lwc ct X r) H → va_S (fA 5 ad) s.heap H locs → ∀ (ls : Array Slot), lv_has ls 11 [(5, .int (nI i)), (0, .ref (ad 0)), (1, .ref (ad 1)), (2, .ref (ad 2)), (3, .ref (ad 3)), (4, .ref (ad 4))] → W p l e ({ frames := 3, cells := 0, slots := 0, locals := 73 }) s m args below meth c H locs 0 0 (MQ below (fQ D ct 5 ad (some (.int (hrT Z n))) (lwc ct (hrZ Z n) r)) args s 0 0 (fA 5 ad)) (F0 m 9 ls []) := by
          intro fu9
          induction fu9 with
          | zero => intro f X hX hXO hdf hres hfu9; exact absurd hfu9 (Nat.not_lt_zero _)
          | succ fu9 ih9 =>
            intro f X hX hXO hdf hres hfu9 H locs hP hS ls hl
            refine lv_aload hx hb dL_hour_9 (lv_at hl 5 rfl) ?_
            refine lv_iconst (v := nI 1) hx hb dL_hour_11 (by decide) ?_
            refine lw_l4 hx hb hK hP (by omega) dL_hour_12 ?_
            refine lv_teq (vwT_at (by omega)) ?_
            refine lv_iconst (v := nI 1) hx hb dL_hour_13 (by decide) ?_
            refine lv_icmp_ne (tgt := 189) hx hb dL_hour_14 (by decide) (fun c14 => ?_) (fun c14 => ?_)
            · refine lv_iinc (v := nI (i + 1)) (lv' := [(5, .int (nI (i + 1))), (0, .ref (ad 0)), (1, .ref (ad 1)), (2, .ref (ad 2)), (3, .ref (ad 3)), (4, .ref (ad 4))]) hx hb dL_hour_189 hl (k := 0) rfl (nI_add i 1) (by decide) rfl (fun ls hl => ?_)
              refine lv_goto (tgt := 3) hx hb dL_hour_192 (by decide) ?_
              have hl := lv_sub (l' := [(5, .int (nI (i + 1))), (0, .ref (ad 0)), (1, .ref (ad 1)), (2, .ref (ad 2)), (3, .ref (ad 3)), (4, .ref (ad 4))]) hl [0, 1, 2, 3, 4, 5] rfl
              have hP := fP.eqc (congrArg (fun v9 => lwc ct v9 r) (show X = (shdS Z n (i + 1)) from by (rw [show shdS Z n (i + 1) = shL i n 10 (shdS Z n i) from rfl, ← hres]; cases f <;> first | rfl | (simp only [shL, shC, c6, Nat.not_le.mpr c6, c14, decide_true, decide_false, Bool.and_true, Bool.true_and, Bool.and_false, Bool.false_and, Bool.or_true, Bool.true_or, Bool.or_false, Bool.false_or, Bool.and_self, Bool.or_self, if_true, if_false, eq_self, Bool.false_eq_true, Bool.true_eq_false, reduceCtorEq, nI_0, not_true_eq_false, not_false_eq_true, and_true, true_and, and_false, false_and, or_true, true_or, or_false, false_or, and_self, or_self, Int32.add_zero]; done)))) hP
              exact ih3 (i + 1) (by omega) (by omega) _ _ hP hS _ hl
            · refine lv_aload_n hx hb dL_hour_17 rfl (lv_at hl 3 rfl) ?_
              refine lv_iconst (v := nI 5) hx hb dL_hour_18 (by decide) ?_
              refine lv_iload hx hb dL_hour_19 (lv_at hl 0 rfl) ?_
              refine lv_imulN hx hb dL_hour_21 ?_
              refine lv_iconst (v := nI 1) hx hb dL_hour_22 (by decide) ?_
              refine lv_iaddN hx hb dL_hour_23 ?_
              refine lw_l2 hx hb hK hP (by omega) dL_hour_24 ?_
              refine lv_teq (vwB_at (by omega) (by omega)) ?_
              refine lv_iconst (v := nI 1) hx hb dL_hour_25 (by decide) ?_
              refine lv_icmp_ne (tgt := 189) hx hb dL_hour_26 (by decide) (fun c26 => ?_) (fun c26 => ?_)
              · refine lv_iinc (v := nI (i + 1)) (lv' := [(5, .int (nI (i + 1))), (0, .ref (ad 0)), (1, .ref (ad 1)), (2, .ref (ad 2)), (3, .ref (ad 3)), (4, .ref (ad 4))]) hx hb dL_hour_189 hl (k := 0) rfl (nI_add i 1) (by decide) rfl (fun ls hl => ?_)
                refine lv_goto (tgt := 3) hx hb dL_hour_192 (by decide) ?_
                have hl := lv_sub (l' := [(5, .int (nI (i + 1))), (0, .ref (ad 0)), (1, .ref (ad 1)), (2, .ref (ad 2)), (3, .ref (ad 3)), (4, .ref (ad 4))]) hl [0, 1, 2, 3, 4, 5] rfl
                have hP := fP.eqc (congrArg (fun v9 => lwc ct v9 r) (show X = (shdS Z n (i + 1)) from by (rw [show shdS Z n (i + 1) = shL i n 10 (shdS Z n i) from rfl, ← hres]; cases f <;> first | rfl | (simp only [shL, shC, c6, Nat.not_le.mpr c6, c14, c26, decide_true, decide_false, Bool.and_true, Bool.true_and, Bool.and_false, Bool.false_and, Bool.or_true, Bool.true_or, Bool.or_false, Bool.false_or, Bool.and_self, Bool.or_self, if_true, if_false, eq_self, Bool.false_eq_true, Bool.true_eq_false, reduceCtorEq, nI_0, not_true_eq_false, not_false_eq_true, and_true, true_and, and_false, false_and, or_true, true_or, or_false, false_or, and_self, or_self, Int32.add_zero]; done)))) hP
                exact ih3 (i + 1) (by omega) (by omega) _ _ hP hS _ hl
              · refine lv_aload_n hx hb dL_hour_29 rfl (lv_at hl 1 rfl) ?_
                refine lv_aload_n hx hb dL_hour_30 rfl (lv_at hl 3 rfl) ?_
                refine lv_aload_n hx hb dL_hour_31 rfl (lv_at hl 4 rfl) ?_
                refine lv_aload hx hb dL_hour_32 (lv_at hl 5 rfl) ?_
                refine lv_iload hx hb dL_hour_34 (lv_at hl 0 rfl) ?_
                refine lw_cr (As := [.ref (ad 0), .ref (ad 2), .ref (ad 3), .ref (ad 4), .int (nI i)]) (rest := []) hx hb hown htg hK hI hS hP (fun _ h => fA_in h) hml hl.1 (mL_carries l D ct ad _ _ i n hX (by omega)) cw_L_24 rfl rfl ⟨Nat.le_of_ble_eq_true rfl, Nat.le_of_ble_eq_true rfl⟩ (Nat.le_of_ble_eq_true rfl) dL_hour_36 ⟨Nat.le_refl _, Nat.le_refl _⟩ (fun H locs hP hS => ?_)
                refine lv_aload_n hx hb dL_hour_39 rfl (lv_at hl 3 rfl) ?_
                refine lv_iconst (v := nI 5) hx hb dL_hour_40 (by decide) ?_
                refine lv_iload hx hb dL_hour_41 (lv_at hl 0 rfl) ?_
                refine lv_imulN hx hb dL_hour_43 ?_
                refine lw_l2 hx hb hK hP (by omega) dL_hour_44 ?_
                refine lv_teq (vwB_a0 (by omega)) ?_
                refine lv_icmp_leR (tgt := 189) hx hb dL_hour_45 (by decide) (fun c45 => ?_) (fun c45 => ?_)
                · refine lv_iinc (v := nI (i + 1)) (lv' := [(5, .int (nI (i + 1))), (0, .ref (ad 0)), (1, .ref (ad 1)), (2, .ref (ad 2)), (3, .ref (ad 3)), (4, .ref (ad 4))]) hx hb dL_hour_189 hl (k := 0) rfl (nI_add i 1) (by decide) rfl (fun ls hl => ?_)
                  refine lv_goto (tgt := 3) hx hb dL_hour_192 (by decide) ?_
                  have hl := lv_sub (l' := [(5, .int (nI (i + 1))), (0, .ref (ad 0)), (1, .ref (ad 1)), (2, .ref (ad 2)), (3, .ref (ad 3)), (4, .ref (ad 4))]) hl [0, 1, 2, 3, 4, 5] rfl
                  have hP := fP.eqc (congrArg (fun v9 => lwc ct v9 r) (show X = (shdS Z n (i + 1)) from by (rw [show shdS Z n (i + 1) = shL i n 10 (shdS Z n i) from rfl, ← hres]; cases f <;> first | rfl | (simp only [shL, shC, c6, Nat.not_le.mpr c6, c14, c26, c45, Int32.not_lt.mpr c45, decide_true, decide_false, Bool.and_true, Bool.true_and, Bool.and_false, Bool.false_and, Bool.or_true, Bool.true_or, Bool.or_false, Bool.false_or, Bool.and_self, Bool.or_self, if_true, if_false, eq_self, Bool.false_eq_true, Bool.true_eq_false, reduceCtorEq, nI_0, not_true_eq_false, not_false_eq_true, and_true, true_and, and_false, false_and, or_true, true_or, or_false, false_or, and_self, or_self, Int32.add_zero]; done)))) hP
                  exact ih3 (i + 1) (by omega) (by omega) _ _ hP hS _ hl
                · refine lv_iconst (v := -1) hx hb dL_hour_48 (by decide) ?_
                  refine lv_istore (lv' := [(6, .int (-1)), (5, .int (nI i)), (0, .ref (ad 0)), (1, .ref (ad 1)), (2, .ref (ad 2)), (3, .ref (ad 3)), (4, .ref (ad 4))]) hx hb dL_hour_49 hl (by decide) rfl (fun ls hl => ?_)
                  refine lv_iconst (v := -1) hx hb dL_hour_51 (by decide) ?_
                  refine lv_istore (lv' := [(7, .int (-1)), (6, .int (-1)), (5, .int (nI i)), (0, .ref (ad 0)), (1, .ref (ad 1)), (2, .ref (ad 2)), (3, .ref (ad 3)), (4, .ref (ad 4))]) hx hb dL_hour_52 hl (by decide) rfl (fun ls hl => ?_)
                  refine lv_iconst (v := nI 0) hx hb dL_hour_54 (by decide) ?_
                  refine lv_istore (lv' := [(8, .int (nI 0)), (7, .int (-1)), (6, .int (-1)), (5, .int (nI i)), (0, .ref (ad 0)), (1, .ref (ad 1)), (2, .ref (ad 2)), (3, .ref (ad 3)), (4, .ref (ad 4))]) hx hb dL_hour_55 hl (by decide) rfl (fun ls hl => ?_)
                  have lp57 : ∀ (fu57 : Nat) (j : Nat), j ≤ n → n - j < fu57 → ∀ (H : Heap) (locs : List Loc), fP D 5 ad (lwc ct X r) H → va_S (fA 5 ad) s.heap H locs → ∀ (ls : Array Slot), lv_has ls 11 [(8, .int (nI j)), (7, .int (moL X i j)), (6, .int (ox (ftn X i j))), (5, .int (nI i)), (0, .ref (ad 0)), (1, .ref (ad 1)), (2, .ref (ad 2)), (3, .ref (ad 3)), (4, .ref (ad 4))] → W p l e ({ frames := 3, cells := 0, slots := 0, locals := 73 }) s m args below meth c H locs 0 0 (MQ below (fQ D ct 5 ad (some (.int (hrT Z n))) (lwc ct (hrZ Z n) r)) args s 0 0 (fA 5 ad)) (F0 m 57 ls []) := by
                    intro fu57
                    induction fu57 with
                    | zero => intro j hj hfu57; exact absurd hfu57 (Nat.not_lt_zero _)
                    | succ fu57 ih57 =>
                      intro j hj hfu57 H locs hP hS ls hl
                      refine lv_iload hx hb dL_hour_57 (lv_at hl 0 rfl) ?_
                      refine lv_aload hx hb dL_hour_59 (lv_at hl 8 rfl) ?_
                      refine lv_iconst (v := nI 4) hx hb dL_hour_61 (by decide) ?_
                      refine lw_l4 hx hb hK hP (by omega) dL_hour_62 ?_
                      refine lv_teq (vwT_at (by omega)) ?_
                      refine lv_teq (hX).1.2.1 ?_
                      refine lv_icmp_geN (tgt := 168) hx hb (by omega) (by omega) dL_hour_63 (by decide) (fun c63 => ?_) (fun c63 => ?_)
                      · have e9 : n = j := by omega
                        subst e9
                        have hC : shC X i n = true := by simp only [shC, c14, c26, c45, decide_true, Bool.and_self]
                        have hF := shC_ftn hX.1 (by omega) c45
                        have hd := drN_sh hX.1 hF
                        have hfl := ftn_lt X i n
                        have hf1 : 1 ≤ f := by omega
                        refine lv_aload_n hx hb dL_hour_168 rfl (lv_at hl 4 rfl) ?_
                        refine lv_bipush (v := nI 6) hx hb dL_hour_169 (by decide) ?_
                        refine lv_iload hx hb dL_hour_171 (lv_at hl 2 rfl) ?_
                        refine lv_teq (ox_n hF) ?_
                        refine lv_imulN hx hb dL_hour_173 ?_
                        refine lv_iconst (v := nI 5) hx hb dL_hour_174 (by decide) ?_
                        refine lv_iaddN hx hb dL_hour_175 ?_
                        refine lv_iconst (v := nI 1) hx hb dL_hour_176 (by decide) ?_
                        refine lw_sA (by omega) (by omega) hx hb hK hP hI hS (fun _ h => fA_in h) dL_hour_177 (fun H locs hP hS => ?_)
                        refine lv_aload hx hb dL_hour_178 (lv_at hl 8 rfl) ?_
                        refine lv_iconst (v := nI 5) hx hb dL_hour_180 (by decide) ?_
                        refine lv_dup2_11 hx hb dL_hour_181 rfl rfl ?_
                        refine lw_l4 hx hb hK hP (by omega) dL_hour_182 ?_
                        refine lv_teq (vwT_at (by omega)) ?_
                        refine lv_iconst (v := nI 1) hx hb dL_hour_183 (by decide) ?_
                        refine lv_iadd hx hb dL_hour_184 ?_
                        refine lw_sT (by omega) hx hb hK hP hI hS (fun _ h => fA_in h) dL_hour_185 (fun H locs hP hS => ?_)
                        refine lv_goto (tgt := 9) hx hb dL_hour_186 (by decide) ?_
                        have hl := lv_sub (l' := [(5, .int (nI i)), (0, .ref (ad 0)), (1, .ref (ad 1)), (2, .ref (ad 2)), (3, .ref (ad 3)), (4, .ref (ad 4))]) hl [3, 4, 5, 6, 7, 8] rfl
                        have hP := fP.eqc (congrArg (fun v9 => lwc ct v9 r) (show (upd (upd X (39 + 8 * (ftn X i n) + 5) (nI 1)) (5) (((upd X (39 + 8 * (ftn X i n) + 5) (nI 1)) 5) + (nI 1))) = (shS X i n) from by rfl)) hP
                        exact ih9 (f - 1) (shS X i n) (shS_lG hX) (shS_oI hXO) (by omega) (by rw [show f = (f - 1) + 1 from by omega] at hres; simpa only [shL, hC, if_true] using hres) (by omega) _ _ hP hS _ hl
                      · refine lv_sipush (v := nI 1000) hx hb dL_hour_66 (by decide) ?_
                        refine lv_aload_n hx hb dL_hour_69 rfl (lv_at hl 4 rfl) ?_
                        refine lv_bipush (v := nI 6) hx hb dL_hour_70 (by decide) ?_
                        refine lv_iload hx hb dL_hour_72 (lv_at hl 0 rfl) ?_
                        refine lv_imulN hx hb dL_hour_74 ?_
                        refine lv_iconst (v := nI 3) hx hb dL_hour_75 (by decide) ?_
                        refine lv_iaddN hx hb dL_hour_76 ?_
                        refine lw_l0 hx hb hK hP (by omega) dL_hour_77 ?_
                        refine lv_teq (vwA_at (by omega) (by omega)) ?_
                        refine lv_imul hx hb dL_hour_78 ?_
                        refine lv_aload_n hx hb dL_hour_79 rfl (lv_at hl 4 rfl) ?_
                        refine lv_bipush (v := nI 6) hx hb dL_hour_80 (by decide) ?_
                        refine lv_iload hx hb dL_hour_82 (lv_at hl 0 rfl) ?_
                        refine lv_imulN hx hb dL_hour_84 ?_
                        refine lw_l0 hx hb hK hP (by omega) dL_hour_85 ?_
                        refine lv_teq (vwA_a0 (by omega)) ?_
                        refine lv_iadd hx hb dL_hour_86 ?_
                        refine lv_istore (lv' := [(9, .int (((nI 1000) * (X (39 + 8 * j + 3))) + (X (39 + 8 * j + 0)))), (8, .int (nI j)), (7, .int (moL X i j)), (6, .int (ox (ftn X i j))), (5, .int (nI i)), (0, .ref (ad 0)), (1, .ref (ad 1)), (2, .ref (ad 2)), (3, .ref (ad 3)), (4, .ref (ad 4))]) hx hb dL_hour_87 hl (by decide) rfl (fun ls hl => ?_)
                        refine lv_aload_n hx hb dL_hour_89 rfl (lv_at hl 5 rfl) ?_
                        refine lv_aload_n hx hb dL_hour_90 rfl (lv_at hl 7 rfl) ?_
                        refine lv_aload_n hx hb dL_hour_91 rfl (lv_at hl 8 rfl) ?_
                        refine lv_aload hx hb dL_hour_92 (lv_at hl 9 rfl) ?_
                        refine lv_iload hx hb dL_hour_94 (lv_at hl 1 rfl) ?_
                        refine lw_cr (As := [.ref (ad 0), .ref (ad 2), .ref (ad 3), .ref (ad 4), .int (nI j)]) (rest := []) hx hb hown htg hK hI hS hP (fun _ h => fA_in h) hml hl.1 (mL_reason l D ct ad _ _ j n hX (by omega)) cw_L_20 rfl rfl ⟨Nat.le_of_ble_eq_true rfl, Nat.le_of_ble_eq_true rfl⟩ (Nat.le_of_ble_eq_true rfl) dL_hour_96 ⟨Nat.le_refl _, Nat.le_refl _⟩ (fun H locs hP hS => ?_)
                        have hrl := @rsn_lt X j
                        refine lv_ifneN (tgt := 131) hx hb (by omega) dL_hour_99 (by decide) (fun c99 => ?_) (fun c99 => ?_)
                        · refine lv_iconst (v := nI 0) hx hb dL_hour_131 (by decide) ?_
                          refine lv_istore (lv' := [(10, .int (nI 0)), (9, .int (((nI 1000) * (X (39 + 8 * j + 3))) + (X (39 + 8 * j + 0)))), (8, .int (nI j)), (7, .int (moL X i j)), (6, .int (ox (ftn X i j))), (5, .int (nI i)), (0, .ref (ad 0)), (1, .ref (ad 1)), (2, .ref (ad 2)), (3, .ref (ad 3)), (4, .ref (ad 4))]) hx hb dL_hour_132 hl (by decide) rfl (fun ls hl => ?_)
                          refine lv_iload hx hb dL_hour_134 (lv_at hl 0 rfl) ?_
                          refine lv_if_eq (tgt := 144) hx hb dL_hour_136 (by decide) (fun _ => ?_) (fun h => absurd (by decide) h)
                          refine lv_iload hx hb dL_hour_144 (lv_at hl 4 rfl) ?_
                          refine lv_istore (lv' := [(6, .int (ox (ftn X i j))), (10, .int (nI 0)), (9, .int (((nI 1000) * (X (39 + 8 * j + 3))) + (X (39 + 8 * j + 0)))), (8, .int (nI j)), (7, .int (moL X i j)), (5, .int (nI i)), (0, .ref (ad 0)), (1, .ref (ad 1)), (2, .ref (ad 2)), (3, .ref (ad 3)), (4, .ref (ad 4))]) hx hb dL_hour_146 hl (by decide) rfl (fun ls hl => ?_)
                          refine lv_iload hx hb dL_hour_148 (lv_at hl 1 rfl) ?_
                          refine lv_if_eq (tgt := 158) hx hb dL_hour_150 (by decide) (fun _ => ?_) (fun h => absurd (by decide) h)
                          refine lv_iload hx hb dL_hour_158 (lv_at hl 4 rfl) ?_
                          refine lv_istore (lv' := [(7, .int (moL X i j)), (6, .int (ox (ftn X i j))), (10, .int (nI 0)), (9, .int (((nI 1000) * (X (39 + 8 * j + 3))) + (X (39 + 8 * j + 0)))), (8, .int (nI j)), (5, .int (nI i)), (0, .ref (ad 0)), (1, .ref (ad 1)), (2, .ref (ad 2)), (3, .ref (ad 3)), (4, .ref (ad 4))]) hx hb dL_hour_160 hl (by decide) rfl (fun ls hl => ?_)
                          refine lv_iinc (v := nI (j + 1)) (lv' := [(8, .int (nI (j + 1))), (7, .int (moL X i j)), (6, .int (ox (ftn X i j))), (10, .int (nI 0)), (9, .int (((nI 1000) * (X (39 + 8 * j + 3))) + (X (39 + 8 * j + 0)))), (5, .int (nI i)), (0, .ref (ad 0)), (1, .ref (ad 1)), (2, .ref (ad 2)), (3, .ref (ad 3)), (4, .ref (ad 4))]) hx hb dL_hour_162 hl (k := 4) rfl (nI_add j 1) (by decide) rfl (fun ls hl => ?_)
                          refine lv_goto (tgt := 57) hx hb dL_hour_165 (by decide) ?_
                          have hl := lv_sub (l' := [(8, .int (nI (j + 1))), (7, .int (moL X i j)), (6, .int (ox (ftn X i j))), (5, .int (nI i)), (0, .ref (ad 0)), (1, .ref (ad 1)), (2, .ref (ad 2)), (3, .ref (ad 3)), (4, .ref (ad 4))]) hl [0, 1, 2, 5, 6, 7, 8, 9, 10] rfl
                          have le7 : Value.int (moL X i j) = Value.int (moL X i (j + 1)) := by first | (refine congrArg Value.int (ft_no ?_).2.symm; simp only [drwB, onB, c6, Nat.not_le.mpr c6, c14, c26, c45, Int32.not_le.mpr c45, c63, Nat.not_le.mpr c63, c99, decide_true, decide_false, Bool.and_true, Bool.true_and, Bool.and_false, Bool.false_and, Bool.or_true, Bool.true_or, Bool.or_false, Bool.false_or, Bool.and_self, Bool.or_self, if_true, if_false, eq_self, Bool.false_eq_true, Bool.true_eq_false, reduceCtorEq, nI_0, not_true_eq_false, not_false_eq_true, and_true, true_and, and_false, false_and, or_true, true_or, or_false, false_or, and_self, or_self, Int32.add_zero]; done) | (refine congrArg Value.int (ft_yes hXO (by omega) ?_ c124).2.symm; simp only [drwB, onB, c6, Nat.not_le.mpr c6, c14, c26, c45, Int32.not_le.mpr c45, c63, Nat.not_le.mpr c63, c99, decide_true, decide_false, Bool.and_true, Bool.true_and, Bool.and_false, Bool.false_and, Bool.or_true, Bool.true_or, Bool.or_false, Bool.false_or, Bool.and_self, Bool.or_self, if_true, if_false, eq_self, Bool.false_eq_true, Bool.true_eq_false, reduceCtorEq, nI_0, not_true_eq_false, not_false_eq_true, and_true, true_and, and_false, false_and, or_true, true_or, or_false, false_or, and_self, or_self, Int32.add_zero]; done) | exact congrArg Value.int (ft_not hXO (by omega) (Int32.not_lt.mpr c124)).2.symm
                          have le6 : Value.int (ox (ftn X i j)) = Value.int (ox (ftn X i (j + 1))) := by first | (refine congrArg Value.int (ft_no ?_).1.symm; simp only [drwB, onB, c6, Nat.not_le.mpr c6, c14, c26, c45, Int32.not_le.mpr c45, c63, Nat.not_le.mpr c63, c99, decide_true, decide_false, Bool.and_true, Bool.true_and, Bool.and_false, Bool.false_and, Bool.or_true, Bool.true_or, Bool.or_false, Bool.false_or, Bool.and_self, Bool.or_self, if_true, if_false, eq_self, Bool.false_eq_true, Bool.true_eq_false, reduceCtorEq, nI_0, not_true_eq_false, not_false_eq_true, and_true, true_and, and_false, false_and, or_true, true_or, or_false, false_or, and_self, or_self, Int32.add_zero]; done) | (refine congrArg Value.int (ft_yes hXO (by omega) ?_ c124).1.symm; simp only [drwB, onB, c6, Nat.not_le.mpr c6, c14, c26, c45, Int32.not_le.mpr c45, c63, Nat.not_le.mpr c63, c99, decide_true, decide_false, Bool.and_true, Bool.true_and, Bool.and_false, Bool.false_and, Bool.or_true, Bool.true_or, Bool.or_false, Bool.false_or, Bool.and_self, Bool.or_self, if_true, if_false, eq_self, Bool.false_eq_true, Bool.true_eq_false, reduceCtorEq, nI_0, not_true_eq_false, not_false_eq_true, and_true, true_and, and_false, false_and, or_true, true_or, or_false, false_or, and_self, or_self, Int32.add_zero]; done) | exact congrArg Value.int (ft_not hXO (by omega) (Int32.not_lt.mpr c124)).1.symm
                          have hl := lv_hasE hl (lcons rfl (lcons le7 (lcons le6 (lcons rfl (lcons rfl (lcons rfl (lcons rfl (lcons rfl (lcons rfl rfl)))))))))
                          exact ih57 (j + 1) (by omega) (by omega) _ _ hP hS _ hl
                        · have d4 : ¬ X (39 + 8 * j + 4) = -1 := rsn0_at c99
                          have hq9 := skt_lt hX.1 (by omega) d4
                          have hb9 := brk_lt (Z := X) hq9
                          refine lv_aload_n hx hb dL_hour_102 rfl (lv_at hl 8 rfl) ?_
                          refine lv_aload_n hx hb dL_hour_103 rfl (lv_at hl 5 rfl) ?_
                          refine lv_bipush (v := nI 6) hx hb dL_hour_104 (by decide) ?_
                          refine lv_iload hx hb dL_hour_106 (lv_at hl 1 rfl) ?_
                          refine lv_imulN hx hb dL_hour_108 ?_
                          refine lv_iconst (v := nI 4) hx hb dL_hour_109 (by decide) ?_
                          refine lv_iaddN hx hb dL_hour_110 ?_
                          refine lw_l0 hx hb hK hP (by omega) dL_hour_111 ?_
                          refine lv_teq (vwA_at (by omega) (by omega)) ?_
                          refine lv_teq (skt_eq hX.1 (by omega) d4) ?_
                          refine lw_cr (As := [.ref (ad 3), .int (nI (skt X j))]) (rest := []) hx hb hown htg hK hI hS hP (fun _ h => fA_in h) hml hl.1 (mL_breaker l D ct ad _ _ (skt X j) (by omega) ((hX).2.1)) cw_L_16 rfl rfl ⟨Nat.le_of_ble_eq_true rfl, Nat.le_of_ble_eq_true rfl⟩ (Nat.le_of_ble_eq_true rfl) dL_hour_112 ⟨Nat.le_refl _, Nat.le_refl _⟩ (fun H locs hP hS => ?_)
                          have hbk := @brk_lt X (skt X j) (by omega)
                          refine lv_iload hx hb dL_hour_115 (lv_at hl 4 rfl) ?_
                          refine lv_icmp_neN (tgt := 131) hx hb (by omega) (by omega) dL_hour_117 (by decide) (fun c117 => ?_) (fun c117 => ?_)
                          · refine lv_iconst (v := nI 0) hx hb dL_hour_131 (by decide) ?_
                            refine lv_istore (lv' := [(10, .int (nI 0)), (9, .int (((nI 1000) * (X (39 + 8 * j + 3))) + (X (39 + 8 * j + 0)))), (8, .int (nI j)), (7, .int (moL X i j)), (6, .int (ox (ftn X i j))), (5, .int (nI i)), (0, .ref (ad 0)), (1, .ref (ad 1)), (2, .ref (ad 2)), (3, .ref (ad 3)), (4, .ref (ad 4))]) hx hb dL_hour_132 hl (by decide) rfl (fun ls hl => ?_)
                            refine lv_iload hx hb dL_hour_134 (lv_at hl 0 rfl) ?_
                            refine lv_if_eq (tgt := 144) hx hb dL_hour_136 (by decide) (fun _ => ?_) (fun h => absurd (by decide) h)
                            refine lv_iload hx hb dL_hour_144 (lv_at hl 4 rfl) ?_
                            refine lv_istore (lv' := [(6, .int (ox (ftn X i j))), (10, .int (nI 0)), (9, .int (((nI 1000) * (X (39 + 8 * j + 3))) + (X (39 + 8 * j + 0)))), (8, .int (nI j)), (7, .int (moL X i j)), (5, .int (nI i)), (0, .ref (ad 0)), (1, .ref (ad 1)), (2, .ref (ad 2)), (3, .ref (ad 3)), (4, .ref (ad 4))]) hx hb dL_hour_146 hl (by decide) rfl (fun ls hl => ?_)
                            refine lv_iload hx hb dL_hour_148 (lv_at hl 1 rfl) ?_
                            refine lv_if_eq (tgt := 158) hx hb dL_hour_150 (by decide) (fun _ => ?_) (fun h => absurd (by decide) h)
                            refine lv_iload hx hb dL_hour_158 (lv_at hl 4 rfl) ?_
                            refine lv_istore (lv' := [(7, .int (moL X i j)), (6, .int (ox (ftn X i j))), (10, .int (nI 0)), (9, .int (((nI 1000) * (X (39 + 8 * j + 3))) + (X (39 + 8 * j + 0)))), (8, .int (nI j)), (5, .int (nI i)), (0, .ref (ad 0)), (1, .ref (ad 1)), (2, .ref (ad 2)), (3, .ref (ad 3)), (4, .ref (ad 4))]) hx hb dL_hour_160 hl (by decide) rfl (fun ls hl => ?_)
                            refine lv_iinc (v := nI (j + 1)) (lv' := [(8, .int (nI (j + 1))), (7, .int (moL X i j)), (6, .int (ox (ftn X i j))), (10, .int (nI 0)), (9, .int (((nI 1000) * (X (39 + 8 * j + 3))) + (X (39 + 8 * j + 0)))), (5, .int (nI i)), (0, .ref (ad 0)), (1, .ref (ad 1)), (2, .ref (ad 2)), (3, .ref (ad 3)), (4, .ref (ad 4))]) hx hb dL_hour_162 hl (k := 4) rfl (nI_add j 1) (by decide) rfl (fun ls hl => ?_)
                            refine lv_goto (tgt := 57) hx hb dL_hour_165 (by decide) ?_
                            have hl := lv_sub (l' := [(8, .int (nI (j + 1))), (7, .int (moL X i j)), (6, .int (ox (ftn X i j))), (5, .int (nI i)), (0, .ref (ad 0)), (1, .ref (ad 1)), (2, .ref (ad 2)), (3, .ref (ad 3)), (4, .ref (ad 4))]) hl [0, 1, 2, 5, 6, 7, 8, 9, 10] rfl
                            have le7 : Value.int (moL X i j) = Value.int (moL X i (j + 1)) := by first | (refine congrArg Value.int (ft_no ?_).2.symm; simp only [drwB, onB, c6, Nat.not_le.mpr c6, c14, c26, c45, Int32.not_le.mpr c45, c63, Nat.not_le.mpr c63, c99, d4, c117, decide_true, decide_false, Bool.and_true, Bool.true_and, Bool.and_false, Bool.false_and, Bool.or_true, Bool.true_or, Bool.or_false, Bool.false_or, Bool.and_self, Bool.or_self, if_true, if_false, eq_self, Bool.false_eq_true, Bool.true_eq_false, reduceCtorEq, nI_0, not_true_eq_false, not_false_eq_true, and_true, true_and, and_false, false_and, or_true, true_or, or_false, false_or, and_self, or_self, Int32.add_zero]; done) | (refine congrArg Value.int (ft_yes hXO (by omega) ?_ c124).2.symm; simp only [drwB, onB, c6, Nat.not_le.mpr c6, c14, c26, c45, Int32.not_le.mpr c45, c63, Nat.not_le.mpr c63, c99, d4, c117, decide_true, decide_false, Bool.and_true, Bool.true_and, Bool.and_false, Bool.false_and, Bool.or_true, Bool.true_or, Bool.or_false, Bool.false_or, Bool.and_self, Bool.or_self, if_true, if_false, eq_self, Bool.false_eq_true, Bool.true_eq_false, reduceCtorEq, nI_0, not_true_eq_false, not_false_eq_true, and_true, true_and, and_false, false_and, or_true, true_or, or_false, false_or, and_self, or_self, Int32.add_zero]; done) | exact congrArg Value.int (ft_not hXO (by omega) (Int32.not_lt.mpr c124)).2.symm
                            have le6 : Value.int (ox (ftn X i j)) = Value.int (ox (ftn X i (j + 1))) := by first | (refine congrArg Value.int (ft_no ?_).1.symm; simp only [drwB, onB, c6, Nat.not_le.mpr c6, c14, c26, c45, Int32.not_le.mpr c45, c63, Nat.not_le.mpr c63, c99, d4, c117, decide_true, decide_false, Bool.and_true, Bool.true_and, Bool.and_false, Bool.false_and, Bool.or_true, Bool.true_or, Bool.or_false, Bool.false_or, Bool.and_self, Bool.or_self, if_true, if_false, eq_self, Bool.false_eq_true, Bool.true_eq_false, reduceCtorEq, nI_0, not_true_eq_false, not_false_eq_true, and_true, true_and, and_false, false_and, or_true, true_or, or_false, false_or, and_self, or_self, Int32.add_zero]; done) | (refine congrArg Value.int (ft_yes hXO (by omega) ?_ c124).1.symm; simp only [drwB, onB, c6, Nat.not_le.mpr c6, c14, c26, c45, Int32.not_le.mpr c45, c63, Nat.not_le.mpr c63, c99, d4, c117, decide_true, decide_false, Bool.and_true, Bool.true_and, Bool.and_false, Bool.false_and, Bool.or_true, Bool.true_or, Bool.or_false, Bool.false_or, Bool.and_self, Bool.or_self, if_true, if_false, eq_self, Bool.false_eq_true, Bool.true_eq_false, reduceCtorEq, nI_0, not_true_eq_false, not_false_eq_true, and_true, true_and, and_false, false_and, or_true, true_or, or_false, false_or, and_self, or_self, Int32.add_zero]; done) | exact congrArg Value.int (ft_not hXO (by omega) (Int32.not_lt.mpr c124)).1.symm
                            have hl := lv_hasE hl (lcons rfl (lcons le7 (lcons le6 (lcons rfl (lcons rfl (lcons rfl (lcons rfl (lcons rfl (lcons rfl rfl)))))))))
                            exact ih57 (j + 1) (by omega) (by omega) _ _ hP hS _ hl
                          · refine lv_iload hx hb dL_hour_120 (lv_at hl 0 rfl) ?_
                            refine lv_iload hx hb dL_hour_122 (lv_at hl 2 rfl) ?_
                            refine lv_icmp_leR (tgt := 131) hx hb dL_hour_124 (by decide) (fun c124 => ?_) (fun c124 => ?_)
                            · refine lv_iconst (v := nI 0) hx hb dL_hour_131 (by decide) ?_
                              refine lv_istore (lv' := [(10, .int (nI 0)), (9, .int (((nI 1000) * (X (39 + 8 * j + 3))) + (X (39 + 8 * j + 0)))), (8, .int (nI j)), (7, .int (moL X i j)), (6, .int (ox (ftn X i j))), (5, .int (nI i)), (0, .ref (ad 0)), (1, .ref (ad 1)), (2, .ref (ad 2)), (3, .ref (ad 3)), (4, .ref (ad 4))]) hx hb dL_hour_132 hl (by decide) rfl (fun ls hl => ?_)
                              refine lv_iload hx hb dL_hour_134 (lv_at hl 0 rfl) ?_
                              refine lv_if_eq (tgt := 144) hx hb dL_hour_136 (by decide) (fun _ => ?_) (fun h => absurd (by decide) h)
                              refine lv_iload hx hb dL_hour_144 (lv_at hl 4 rfl) ?_
                              refine lv_istore (lv' := [(6, .int (ox (ftn X i j))), (10, .int (nI 0)), (9, .int (((nI 1000) * (X (39 + 8 * j + 3))) + (X (39 + 8 * j + 0)))), (8, .int (nI j)), (7, .int (moL X i j)), (5, .int (nI i)), (0, .ref (ad 0)), (1, .ref (ad 1)), (2, .ref (ad 2)), (3, .ref (ad 3)), (4, .ref (ad 4))]) hx hb dL_hour_146 hl (by decide) rfl (fun ls hl => ?_)
                              refine lv_iload hx hb dL_hour_148 (lv_at hl 1 rfl) ?_
                              refine lv_if_eq (tgt := 158) hx hb dL_hour_150 (by decide) (fun _ => ?_) (fun h => absurd (by decide) h)
                              refine lv_iload hx hb dL_hour_158 (lv_at hl 4 rfl) ?_
                              refine lv_istore (lv' := [(7, .int (moL X i j)), (6, .int (ox (ftn X i j))), (10, .int (nI 0)), (9, .int (((nI 1000) * (X (39 + 8 * j + 3))) + (X (39 + 8 * j + 0)))), (8, .int (nI j)), (5, .int (nI i)), (0, .ref (ad 0)), (1, .ref (ad 1)), (2, .ref (ad 2)), (3, .ref (ad 3)), (4, .ref (ad 4))]) hx hb dL_hour_160 hl (by decide) rfl (fun ls hl => ?_)
                              refine lv_iinc (v := nI (j + 1)) (lv' := [(8, .int (nI (j + 1))), (7, .int (moL X i j)), (6, .int (ox (ftn X i j))), (10, .int (nI 0)), (9, .int (((nI 1000) * (X (39 + 8 * j + 3))) + (X (39 + 8 * j + 0)))), (5, .int (nI i)), (0, .ref (ad 0)), (1, .ref (ad 1)), (2, .ref (ad 2)), (3, .ref (ad 3)), (4, .ref (ad 4))]) hx hb dL_hour_162 hl (k := 4) rfl (nI_add j 1) (by decide) rfl (fun ls hl => ?_)
                              refine lv_goto (tgt := 57) hx hb dL_hour_165 (by decide) ?_
                              have hl := lv_sub (l' := [(8, .int (nI (j + 1))), (7, .int (moL X i j)), (6, .int (ox (ftn X i j))), (5, .int (nI i)), (0, .ref (ad 0)), (1, .ref (ad 1)), (2, .ref (ad 2)), (3, .ref (ad 3)), (4, .ref (ad 4))]) hl [0, 1, 2, 5, 6, 7, 8, 9, 10] rfl
                              have le7 : Value.int (moL X i j) = Value.int (moL X i (j + 1)) := by first | (refine congrArg Value.int (ft_no ?_).2.symm; simp only [drwB, onB, c6, Nat.not_le.mpr c6, c14, c26, c45, Int32.not_le.mpr c45, c63, Nat.not_le.mpr c63, c99, d4, c117, c124, Int32.not_lt.mpr c124, decide_true, decide_false, Bool.and_true, Bool.true_and, Bool.and_false, Bool.false_and, Bool.or_true, Bool.true_or, Bool.or_false, Bool.false_or, Bool.and_self, Bool.or_self, if_true, if_false, eq_self, Bool.false_eq_true, Bool.true_eq_false, reduceCtorEq, nI_0, not_true_eq_false, not_false_eq_true, and_true, true_and, and_false, false_and, or_true, true_or, or_false, false_or, and_self, or_self, Int32.add_zero]; done) | (refine congrArg Value.int (ft_yes hXO (by omega) ?_ c124).2.symm; simp only [drwB, onB, c6, Nat.not_le.mpr c6, c14, c26, c45, Int32.not_le.mpr c45, c63, Nat.not_le.mpr c63, c99, d4, c117, c124, Int32.not_lt.mpr c124, decide_true, decide_false, Bool.and_true, Bool.true_and, Bool.and_false, Bool.false_and, Bool.or_true, Bool.true_or, Bool.or_false, Bool.false_or, Bool.and_self, Bool.or_self, if_true, if_false, eq_self, Bool.false_eq_true, Bool.true_eq_false, reduceCtorEq, nI_0, not_true_eq_false, not_false_eq_true, and_true, true_and, and_false, false_and, or_true, true_or, or_false, false_or, and_self, or_self, Int32.add_zero]; done) | exact congrArg Value.int (ft_not hXO (by omega) (Int32.not_lt.mpr c124)).2.symm
                              have le6 : Value.int (ox (ftn X i j)) = Value.int (ox (ftn X i (j + 1))) := by first | (refine congrArg Value.int (ft_no ?_).1.symm; simp only [drwB, onB, c6, Nat.not_le.mpr c6, c14, c26, c45, Int32.not_le.mpr c45, c63, Nat.not_le.mpr c63, c99, d4, c117, c124, Int32.not_lt.mpr c124, decide_true, decide_false, Bool.and_true, Bool.true_and, Bool.and_false, Bool.false_and, Bool.or_true, Bool.true_or, Bool.or_false, Bool.false_or, Bool.and_self, Bool.or_self, if_true, if_false, eq_self, Bool.false_eq_true, Bool.true_eq_false, reduceCtorEq, nI_0, not_true_eq_false, not_false_eq_true, and_true, true_and, and_false, false_and, or_true, true_or, or_false, false_or, and_self, or_self, Int32.add_zero]; done) | (refine congrArg Value.int (ft_yes hXO (by omega) ?_ c124).1.symm; simp only [drwB, onB, c6, Nat.not_le.mpr c6, c14, c26, c45, Int32.not_le.mpr c45, c63, Nat.not_le.mpr c63, c99, d4, c117, c124, Int32.not_lt.mpr c124, decide_true, decide_false, Bool.and_true, Bool.true_and, Bool.and_false, Bool.false_and, Bool.or_true, Bool.true_or, Bool.or_false, Bool.false_or, Bool.and_self, Bool.or_self, if_true, if_false, eq_self, Bool.false_eq_true, Bool.true_eq_false, reduceCtorEq, nI_0, not_true_eq_false, not_false_eq_true, and_true, true_and, and_false, false_and, or_true, true_or, or_false, false_or, and_self, or_self, Int32.add_zero]; done) | exact congrArg Value.int (ft_not hXO (by omega) (Int32.not_lt.mpr c124)).1.symm
                              have hl := lv_hasE hl (lcons rfl (lcons le7 (lcons le6 (lcons rfl (lcons rfl (lcons rfl (lcons rfl (lcons rfl (lcons rfl rfl)))))))))
                              exact ih57 (j + 1) (by omega) (by omega) _ _ hP hS _ hl
                            · refine lv_iconst (v := nI 1) hx hb dL_hour_127 (by decide) ?_
                              refine lv_goto (tgt := 132) hx hb dL_hour_128 (by decide) ?_
                              refine lv_istore (lv' := [(10, .int (nI 1)), (9, .int (((nI 1000) * (X (39 + 8 * j + 3))) + (X (39 + 8 * j + 0)))), (8, .int (nI j)), (7, .int (moL X i j)), (6, .int (ox (ftn X i j))), (5, .int (nI i)), (0, .ref (ad 0)), (1, .ref (ad 1)), (2, .ref (ad 2)), (3, .ref (ad 3)), (4, .ref (ad 4))]) hx hb dL_hour_132 hl (by decide) rfl (fun ls hl => ?_)
                              refine lv_iload hx hb dL_hour_134 (lv_at hl 0 rfl) ?_
                              refine lv_if_eq (tgt := 144) hx hb dL_hour_136 (by decide) (fun h => absurd h (by decide)) (fun _ => ?_)
                              refine lv_iload hx hb dL_hour_139 (lv_at hl 2 rfl) ?_
                              refine lv_goto (tgt := 146) hx hb dL_hour_141 (by decide) ?_
                              refine lv_istore (lv' := [(6, .int (nI j)), (10, .int (nI 1)), (9, .int (((nI 1000) * (X (39 + 8 * j + 3))) + (X (39 + 8 * j + 0)))), (8, .int (nI j)), (7, .int (moL X i j)), (5, .int (nI i)), (0, .ref (ad 0)), (1, .ref (ad 1)), (2, .ref (ad 2)), (3, .ref (ad 3)), (4, .ref (ad 4))]) hx hb dL_hour_146 hl (by decide) rfl (fun ls hl => ?_)
                              refine lv_iload hx hb dL_hour_148 (lv_at hl 1 rfl) ?_
                              refine lv_if_eq (tgt := 158) hx hb dL_hour_150 (by decide) (fun h => absurd h (by decide)) (fun _ => ?_)
                              refine lv_iload hx hb dL_hour_153 (lv_at hl 2 rfl) ?_
                              refine lv_goto (tgt := 160) hx hb dL_hour_155 (by decide) ?_
                              refine lv_istore (lv' := [(7, .int (((nI 1000) * (X (39 + 8 * j + 3))) + (X (39 + 8 * j + 0)))), (6, .int (nI j)), (10, .int (nI 1)), (9, .int (((nI 1000) * (X (39 + 8 * j + 3))) + (X (39 + 8 * j + 0)))), (8, .int (nI j)), (5, .int (nI i)), (0, .ref (ad 0)), (1, .ref (ad 1)), (2, .ref (ad 2)), (3, .ref (ad 3)), (4, .ref (ad 4))]) hx hb dL_hour_160 hl (by decide) rfl (fun ls hl => ?_)
                              refine lv_iinc (v := nI (j + 1)) (lv' := [(8, .int (nI (j + 1))), (7, .int (((nI 1000) * (X (39 + 8 * j + 3))) + (X (39 + 8 * j + 0)))), (6, .int (nI j)), (10, .int (nI 1)), (9, .int (((nI 1000) * (X (39 + 8 * j + 3))) + (X (39 + 8 * j + 0)))), (5, .int (nI i)), (0, .ref (ad 0)), (1, .ref (ad 1)), (2, .ref (ad 2)), (3, .ref (ad 3)), (4, .ref (ad 4))]) hx hb dL_hour_162 hl (k := 4) rfl (nI_add j 1) (by decide) rfl (fun ls hl => ?_)
                              refine lv_goto (tgt := 57) hx hb dL_hour_165 (by decide) ?_
                              have hl := lv_sub (l' := [(8, .int (nI (j + 1))), (7, .int (((nI 1000) * (X (39 + 8 * j + 3))) + (X (39 + 8 * j + 0)))), (6, .int (nI j)), (5, .int (nI i)), (0, .ref (ad 0)), (1, .ref (ad 1)), (2, .ref (ad 2)), (3, .ref (ad 3)), (4, .ref (ad 4))]) hl [0, 1, 2, 5, 6, 7, 8, 9, 10] rfl
                              have le7 : Value.int (((nI 1000) * (X (39 + 8 * j + 3))) + (X (39 + 8 * j + 0))) = Value.int (moL X i (j + 1)) := by first | (refine congrArg Value.int (ft_no ?_).2.symm; simp only [drwB, onB, c6, Nat.not_le.mpr c6, c14, c26, c45, Int32.not_le.mpr c45, c63, Nat.not_le.mpr c63, c99, d4, c117, c124, Int32.not_le.mpr c124, decide_true, decide_false, Bool.and_true, Bool.true_and, Bool.and_false, Bool.false_and, Bool.or_true, Bool.true_or, Bool.or_false, Bool.false_or, Bool.and_self, Bool.or_self, if_true, if_false, eq_self, Bool.false_eq_true, Bool.true_eq_false, reduceCtorEq, nI_0, not_true_eq_false, not_false_eq_true, and_true, true_and, and_false, false_and, or_true, true_or, or_false, false_or, and_self, or_self, Int32.add_zero]; done) | (refine congrArg Value.int (ft_yes hXO (by omega) ?_ c124).2.symm; simp only [drwB, onB, c6, Nat.not_le.mpr c6, c14, c26, c45, Int32.not_le.mpr c45, c63, Nat.not_le.mpr c63, c99, d4, c117, c124, Int32.not_le.mpr c124, decide_true, decide_false, Bool.and_true, Bool.true_and, Bool.and_false, Bool.false_and, Bool.or_true, Bool.true_or, Bool.or_false, Bool.false_or, Bool.and_self, Bool.or_self, if_true, if_false, eq_self, Bool.false_eq_true, Bool.true_eq_false, reduceCtorEq, nI_0, not_true_eq_false, not_false_eq_true, and_true, true_and, and_false, false_and, or_true, true_or, or_false, false_or, and_self, or_self, Int32.add_zero]; done) | exact congrArg Value.int (ft_not hXO (by omega) (Int32.not_lt.mpr c124)).2.symm
                              have le6 : Value.int (nI j) = Value.int (ox (ftn X i (j + 1))) := by first | (refine congrArg Value.int (ft_no ?_).1.symm; simp only [drwB, onB, c6, Nat.not_le.mpr c6, c14, c26, c45, Int32.not_le.mpr c45, c63, Nat.not_le.mpr c63, c99, d4, c117, c124, Int32.not_le.mpr c124, decide_true, decide_false, Bool.and_true, Bool.true_and, Bool.and_false, Bool.false_and, Bool.or_true, Bool.true_or, Bool.or_false, Bool.false_or, Bool.and_self, Bool.or_self, if_true, if_false, eq_self, Bool.false_eq_true, Bool.true_eq_false, reduceCtorEq, nI_0, not_true_eq_false, not_false_eq_true, and_true, true_and, and_false, false_and, or_true, true_or, or_false, false_or, and_self, or_self, Int32.add_zero]; done) | (refine congrArg Value.int (ft_yes hXO (by omega) ?_ c124).1.symm; simp only [drwB, onB, c6, Nat.not_le.mpr c6, c14, c26, c45, Int32.not_le.mpr c45, c63, Nat.not_le.mpr c63, c99, d4, c117, c124, Int32.not_le.mpr c124, decide_true, decide_false, Bool.and_true, Bool.true_and, Bool.and_false, Bool.false_and, Bool.or_true, Bool.true_or, Bool.or_false, Bool.false_or, Bool.and_self, Bool.or_self, if_true, if_false, eq_self, Bool.false_eq_true, Bool.true_eq_false, reduceCtorEq, nI_0, not_true_eq_false, not_false_eq_true, and_true, true_and, and_false, false_and, or_true, true_or, or_false, false_or, and_self, or_self, Int32.add_zero]; done) | exact congrArg Value.int (ft_not hXO (by omega) (Int32.not_lt.mpr c124)).1.symm
                              have hl := lv_hasE hl (lcons rfl (lcons le7 (lcons le6 (lcons rfl (lcons rfl (lcons rfl (lcons rfl (lcons rfl (lcons rfl rfl)))))))))
                              exact ih57 (j + 1) (by omega) (by omega) _ _ hP hS _ hl
                  have hl := lv_sub (l' := [(8, .int (nI 0)), (7, .int (-1)), (6, .int (-1)), (5, .int (nI i)), (0, .ref (ad 0)), (1, .ref (ad 1)), (2, .ref (ad 2)), (3, .ref (ad 3)), (4, .ref (ad 4))]) hl [0, 1, 2, 3, 4, 5, 6, 7, 8] rfl
                  have le7 : Value.int (-1) = Value.int (moL X i 0) := by rfl
                  have le6 : Value.int (-1) = Value.int (ox (ftn X i 0)) := by rfl
                  have hl := lv_hasE hl (lcons rfl (lcons le7 (lcons le6 (lcons rfl (lcons rfl (lcons rfl (lcons rfl (lcons rfl (lcons rfl rfl)))))))))
                  exact lp57 (n - 0 + 1) 0 (by omega) (Nat.lt_succ_self _) _ _ hP hS _ hl
        have hl := lv_sub (l' := [(5, .int (nI i)), (0, .ref (ad 0)), (1, .ref (ad 1)), (2, .ref (ad 2)), (3, .ref (ad 3)), (4, .ref (ad 4))]) hl [0, 1, 2, 3, 4, 5] rfl
        exact lp9 (10 + 1) 10 (shdS Z n i) (shdS_lG hg (by omega)) (shdS_oI hO i) (by have := drN_le (shdS Z n i) i n; omega) (rfl) (Nat.lt_succ_self _) _ _ hP hS _ hl
  have hl := lv_sub (l' := [(5, .int (nI 0)), (0, .ref (ad 0)), (1, .ref (ad 1)), (2, .ref (ad 2)), (3, .ref (ad 3)), (4, .ref (ad 4))]) hl [0, 1, 2, 3, 4, 5] rfl
  have hP := fP.eqc (congrArg (fun v9 => lwc ct v9 r) (show Z = (shdS Z n 0) from by rfl)) hP
  exact lp3 (4 - 0 + 1) 0 (by omega) (Nat.lt_succ_self _) _ _ hP hS _ hl
