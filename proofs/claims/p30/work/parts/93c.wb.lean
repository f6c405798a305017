/-! THE LAW: what would be at a socket, the best socket -/
theorem pch {O O1 L : Nat → va_E} {N : Nat} : ∀ i, i < N → 198 ≤ i → pcw O1 L i = pcw O L i := fun i _ h => by unfold pcw; rw [if_neg (by omega), if_neg (by omega)]
def dnI (i : Nat) : Int32 := if i = 12 then -1 else nI (11 - i)
theorem dnI_at {i : Nat} (h : i < 12) : dnI i = nI (11 - i) := if_neg (by omega)
theorem dnI_neg {i : Nat} (hi : i ≤ 12) (h : dnI i < 0) : i = 12 := by
  by_cases c : i = 12
  · exact c
  · rw [dnI_at (by omega)] at h; exact absurd h (nI_pos (by omega))
theorem dnI_pos {i : Nat} (hi : i ≤ 12) (h : ¬ dnI i < 0) : i < 12 := by
  by_cases c : i = 12
  · subst c; exact absurd (by decide) h
  · omega
theorem dnI_s {i : Nat} (h : i < 12) : dnI i + (-1) = dnI (i + 1) := by
  rcases (show i = 0 ∨ i = 1 ∨ i = 2 ∨ i = 3 ∨ i = 4 ∨ i = 5 ∨ i = 6 ∨ i = 7 ∨ i = 8 ∨ i = 9 ∨ i = 10 ∨ i = 11 by omega) with rfl | rfl | rfl | rfl | rfl | rfl | rfl | rfl | rfl | rfl | rfl | rfl <;> decide
theorem dn_1 {Z : Nat → Int32} {n a i : Nat} (h : tknB Z n a (nI (11 - i)) = true) : dnS Z n a (i + 1) = dnS Z n a i := if_pos h
theorem dn_2 {Z : Nat → Int32} {n a i : Nat} (h : tknB Z n a (nI (11 - i)) = false) (hb : (dnS Z n a i).1 < 0 ∨ itv Z n a (11 - i) ≤ (dnS Z n a i).2) : dnS Z n a (i + 1) = (nI (11 - i), itv Z n a (11 - i)) := (if_neg (by rw [h]; decide)).trans (if_pos hb)
theorem dn_3 {Z : Nat → Int32} {n a i : Nat} (h : tknB Z n a (nI (11 - i)) = false) (h1 : ¬ (dnS Z n a i).1 < 0) (h2 : (dnS Z n a i).2 < itv Z n a (11 - i)) : dnS Z n a (i + 1) = dnS Z n a i := (if_neg (by rw [h]; decide)).trans (if_neg (fun q => by
  rcases q with q | q
  · exact h1 q
  · exact absurd q (Int64.not_le.mpr h2)))
section LCE
variable {p : Program} {l : Launch} {e : Env} {R : Room} {s : State} {m : MethodId} {args : Array Value} {below : List Frame} {meth : Method} {c : Code} {H : Heap} {locs : List Loc} {cells slots : Nat} {Q : State → Prop}
variable {cc : ByteArray} {pc : Nat} {ls : Array Slot} {rest : List Value}
theorem lw_lcmp_eq (hexec : p.tables.exec = Jvm.exec) (hb : c.code = cc) {x y : Int64} (he : x = y) (hdg : decode cc pc = .ok (.lcmp, 1))
    (k : W p l e R s m args below meth c H locs cells slots Q (F0 m (pc + 1) ls (.int 0 :: rest))) : W p l e R s m args below meth c H locs cells slots Q (F0 m pc ls (.long y :: .long x :: rest)) := by
  subst he
  intro T hT X
  obtain ⟨t, a, b⟩ := k T hT X
  refine ⟨t, ?_, b⟩
  jvm_step X.here [X.here.top, hexec, hb, hdg]
  exact a
theorem lv_ifgtR (hexec : p.tables.exec = Jvm.exec) (hb : c.code = cc) {x : Int32} {off : Int} {tgt : Nat} (hdg : decode cc pc = .ok (.ifCond .gt off, 3)) (ht : (pc : Int) + off = (tgt : Int))
    (kt : 0 < x → W p l e R s m args below meth c H locs cells slots Q (F0 m tgt ls rest)) (kf : x ≤ 0 → W p l e R s m args below meth c H locs cells slots Q (F0 m (pc + 3) ls rest)) : W p l e R s m args below meth c H locs cells slots Q (F0 m pc ls (.int x :: rest)) :=
  lv_if_gt hexec hb hdg ht kt (fun h => kf (Int32.not_lt.mp h))
end LCE
set_option maxRecDepth 100000 in
set_option maxHeartbeats 8000000 in
theorem mL_wouldBe (l : Launch) (D : va_G) (ct : Nat → ClassId) (ad : Nat → Nat) (O : Nat → va_E) (Z : Nat → Int32) (r hv : Int32) (n : Nat) (hOS : OS ct ad O Z n) (hri : rI Z n) (hg : lG r Z n) (hn1 : 1 ≤ n) : ∃ O', (∀ sz, NMet l yL_wouldBe cL_wouldBe 21 (some .boolean) 7 160 52 1391 D ct 203 ad sz [.ref (ad 0), .ref (ad 198), .ref (ad 199), .ref (ad 200), .ref (ad 201), .ref (ad 202), .int (hv)] (pcw O (lwc ct Z r)) (some (.int (nI 1))) (pcw O' (lwc ct Z r))) ∧ OS ct ad O' Z n := by
  have hO := hri.1
  have ho := hri.2.1
  have hn10 := hg.1.1
  obtain ⟨h9, hh9, hb9⟩ := hri.2.2.2
  obtain ⟨k, ek⟩ : ∃ z9, loN hv n = z9 := ⟨_, rfl⟩
  obtain ⟨q, eq9⟩ : ∃ z9, loN (hv >>> (nI 4 &&& 31)) 12 = z9 := ⟨_, rfl⟩
  obtain ⟨h2, eh2⟩ : ∃ z9, loN (hv >>> (nI 8 &&& 31)) 48 = z9 := ⟨_, rfl⟩
  have hk : k < n := by rw [← ek]; exact loN_lt (by omega)
  have hq : q < 12 := by rw [← eq9]; exact loN_lt (by omega)
  have hh2 : h2 < 48 := by rw [← eh2]; exact loN_lt (by omega)
  obtain ⟨fs1, h01⟩ := hOS.h5
  obtain ⟨O1, hM1, hOS1⟩ := os_ifPlugged (l := l) (D := D) (k := k) (q := q) (tm := 1 + h2) (w := 0) hOS hri hk hq (by omega) (by omega) (by omega)
  obtain ⟨fs2, h02⟩ := hOS1.h5
  obtain ⟨O2, hM2, hOS2⟩ := os_ifPlugged (l := l) (D := D) (k := k) (q := q) (tm := 1 + h2) (w := 1) hOS1 hri hk hq (by omega) (by omega) (by omega)
  obtain ⟨fs3, h03⟩ := hOS2.h5
  obtain ⟨O3, hM3, hOS3⟩ := os_ifPlugged (l := l) (D := D) (k := k) (q := q) (tm := 1 + h2) (w := 2) hOS2 hri hk hq (by omega) (by omega) (by omega)
  obtain ⟨fs4, h04⟩ := hOS3.h5
  obtain ⟨O4, hM4, hOS4⟩ := os_bestSocket (l := l) (D := D) (k := k) hOS3 hri hk
  refine ⟨O4, fun sz => ?_, hOS4⟩
  refine NMet.of (by decide +kernel) (Nat.le_of_ble_eq_true rfl) ?_
  intro p e s m args below meth c ls hx hb hr hml hown hlocks htg hK hI hP hS hsz hl
  have hl : lv_has ls 21 [(0, .ref (ad 0)), (1, .ref (ad 198)), (2, .ref (ad 199)), (3, .ref (ad 200)), (4, .ref (ad 201)), (5, .ref (ad 202)), (6, .int (hv))] := hl
  have hA : ∀ q : Nat, s.heap.size ≤ q → nF 203 ad sz q := fun q h => Or.inr (by omega)
  have hA0 : ∀ k, k < 203 → nF 203 ad sz (ad k) := fun k h => Or.inl (fA_in h)
  refine lv_iload hx hb dL_wouldBe_0 (lv_at hl 6 rfl) ?_
  refine lv_aload hx hb dL_wouldBe_2 (lv_at hl 5 rfl) ?_
  refine lv_iconst (v := nI 4) hx hb dL_wouldBe_4 (by decide) ?_
  refine fr_iald (k := 202) (f := vwT Z) hx hb hK hP (by decide) rfl (by omega) (by decide) dL_wouldBe_5 ?_
  refine lv_teq (vwT_at (by omega)) ?_
  refine lv_teq (hg).1.2.1 ?_
  refine nw_Sr (N1 := 5) (nm := (fun z => 198 + z)) (ce1 := lwc ct Z r) (ce1' := lwc ct Z r) (ce' := pcw O (lwc ct Z r)) (As := [.int (hv), .int (nI n)]) (rest := []) hx hb hml hown htg hK hI hP hS hA0 hl.1 p203 pinj pcr pcr (fun _ _ _ => rfl) (mL_low l D ct (fun z => ad ((fun z => 198 + z) z)) Z r hv n (by omega) (by omega)) cw_L_62 rfl rfl ⟨Nat.le_of_ble_eq_true rfl, Nat.le_of_ble_eq_true rfl⟩ (Nat.le_of_ble_eq_true rfl) dL_wouldBe_6 ⟨(show 0 ≤ 52 by omega), (show 0 ≤ 1391 by omega)⟩ (fun H locs hP hS => ?_)
  have hlo := @loN_lt hv n (by omega)
  rw [ek]
  refine lv_istore (lv' := [(7, .int (nI k)), (0, .ref (ad 0)), (1, .ref (ad 198)), (2, .ref (ad 199)), (3, .ref (ad 200)), (4, .ref (ad 201)), (5, .ref (ad 202)), (6, .int (hv))]) hx hb dL_wouldBe_9 hl (by decide) rfl (fun ls hl => ?_)
  refine lv_iload hx hb dL_wouldBe_11 (lv_at hl 7 rfl) ?_
  refine lv_iconst (v := nI 4) hx hb dL_wouldBe_13 (by decide) ?_
  refine lv_ishr hx hb dL_wouldBe_14 ?_
  refine lv_bipush (v := nI 12) hx hb dL_wouldBe_15 (by decide) ?_
  refine nw_Sr (N1 := 5) (nm := (fun z => 198 + z)) (ce1 := lwc ct Z r) (ce1' := lwc ct Z r) (ce' := pcw O (lwc ct Z r)) (As := [.int (hv >>> ((nI 4) &&& 31)), .int (nI 12)]) (rest := []) hx hb hml hown htg hK hI hP hS hA0 hl.1 p203 pinj pcr pcr (fun _ _ _ => rfl) (mL_low l D ct (fun z => ad ((fun z => 198 + z) z)) Z r (hv >>> ((nI 4) &&& 31)) 12 (by omega) (by omega)) cw_L_62 rfl rfl ⟨Nat.le_of_ble_eq_true rfl, Nat.le_of_ble_eq_true rfl⟩ (Nat.le_of_ble_eq_true rfl) dL_wouldBe_17 ⟨(show 0 ≤ 52 by omega), (show 0 ≤ 1391 by omega)⟩ (fun H locs hP hS => ?_)
  have hlo := @loN_lt (hv >>> ((nI 4) &&& 31)) 12 (by omega)
  rw [eq9]
  refine lv_istore (lv' := [(8, .int (nI q)), (7, .int (nI k)), (0, .ref (ad 0)), (1, .ref (ad 198)), (2, .ref (ad 199)), (3, .ref (ad 200)), (4, .ref (ad 201)), (5, .ref (ad 202)), (6, .int (hv))]) hx hb dL_wouldBe_20 hl (by decide) rfl (fun ls hl => ?_)
  refine lv_iconst (v := nI 1) hx hb dL_wouldBe_22 (by decide) ?_
  refine lv_iload hx hb dL_wouldBe_23 (lv_at hl 8 rfl) ?_
  refine lv_bipush (v := nI 8) hx hb dL_wouldBe_25 (by decide) ?_
  refine lv_ishr hx hb dL_wouldBe_27 ?_
  refine lv_bipush (v := nI 48) hx hb dL_wouldBe_28 (by decide) ?_
  refine nw_Sr (N1 := 5) (nm := (fun z => 198 + z)) (ce1 := lwc ct Z r) (ce1' := lwc ct Z r) (ce' := pcw O (lwc ct Z r)) (As := [.int (hv >>> ((nI 8) &&& 31)), .int (nI 48)]) (rest := [.int (nI 1)]) hx hb hml hown htg hK hI hP hS hA0 hl.1 p203 pinj pcr pcr (fun _ _ _ => rfl) (mL_low l D ct (fun z => ad ((fun z => 198 + z) z)) Z r (hv >>> ((nI 8) &&& 31)) 48 (by omega) (by omega)) cw_L_62 rfl rfl ⟨Nat.le_of_ble_eq_true rfl, Nat.le_of_ble_eq_true rfl⟩ (Nat.le_of_ble_eq_true rfl) dL_wouldBe_30 ⟨(show 0 ≤ 52 by omega), (show 0 ≤ 1391 by omega)⟩ (fun H locs hP hS => ?_)
  have hlo := @loN_lt (hv >>> ((nI 8) &&& 31)) 48 (by omega)
  rw [eh2]
  refine lv_iaddN hx hb dL_wouldBe_33 ?_
  refine lv_istore (lv' := [(9, .int (nI (1 + h2))), (8, .int (nI q)), (7, .int (nI k)), (0, .ref (ad 0)), (1, .ref (ad 198)), (2, .ref (ad 199)), (3, .ref (ad 200)), (4, .ref (ad 201)), (5, .ref (ad 202)), (6, .int (hv))]) hx hb dL_wouldBe_34 hl (by decide) rfl (fun ls hl => ?_)
  refine lv_aload_n hx hb dL_wouldBe_36 rfl (lv_at hl 4 rfl) ?_
  refine lv_aload hx hb dL_wouldBe_37 (lv_at hl 8 rfl) ?_
  refine lv_iload hx hb dL_wouldBe_39 (lv_at hl 1 rfl) ?_
  refine nw_Sr (N1 := 5) (nm := (fun z => 198 + z)) (ce1 := lwc ct Z r) (ce1' := lwc ct Z r) (ce' := pcw O (lwc ct Z r)) (As := [.ref (ad 198), .ref (ad 202), .int (nI q)]) (rest := []) hx hb hml hown htg hK hI hP hS hA0 hl.1 p203 pinj pcr pcr (fun _ _ _ => rfl) (mL_at l D ct (fun z => ad ((fun z => 198 + z) z)) Z r (nI q) n hg) cw_L_38 rfl rfl ⟨Nat.le_of_ble_eq_true rfl, Nat.le_of_ble_eq_true rfl⟩ (Nat.le_of_ble_eq_true rfl) dL_wouldBe_41 ⟨(show 0 ≤ 52 by omega), (show 0 ≤ 1391 by omega)⟩ (fun H locs hP hS => ?_)
  suffices hJ65 : ∀ (H : Heap) (locs : List Loc), fP D 203 ad (pcw O (lwc ct Z r)) H → va_S (nF 203 ad sz) s.heap H locs → W p l e ({ frames := 7, cells := 52, slots := 1391, locals := 160 }) s m args below meth c H locs (0) (0) (MQ below (nQ D ct 203 ad sz (some (.int (nI 1))) (pcw O4 (lwc ct Z r))) args s 52 1391 (nF 203 ad sz)) (F0 m 65 ls [.int (bi (tknB Z n k (nI q)))]) by
    refine lv_ifltR (tgt := 64) hx hb dL_wouldBe_44 (by decide) (fun c44 => ?_) (fun c44 => ?_)
    · refine lv_iconst (v := nI 0) hx hb dL_wouldBe_64 (by decide) ?_
      exact lv_tveq (show Value.int (nI 0) = Value.int (bi (tknB Z n k (nI q))) from by first | exact congrArg Value.int (congrArg bi (tk_neg hn10 c44)).symm | exact congrArg Value.int (congrArg bi (tk_same c57)).symm | exact congrArg Value.int (congrArg bi (tk_yes hn10 (Int32.not_lt.mpr c44) c57)).symm) (hJ65 _ _ hP hS)
    · refine lv_aload_n hx hb dL_wouldBe_47 rfl (lv_at hl 4 rfl) ?_
      refine lv_aload hx hb dL_wouldBe_48 (lv_at hl 8 rfl) ?_
      refine lv_iload hx hb dL_wouldBe_50 (lv_at hl 1 rfl) ?_
      refine nw_Sr (N1 := 5) (nm := (fun z => 198 + z)) (ce1 := lwc ct Z r) (ce1' := lwc ct Z r) (ce' := pcw O (lwc ct Z r)) (As := [.ref (ad 198), .ref (ad 202), .int (nI q)]) (rest := []) hx hb hml hown htg hK hI hP hS hA0 hl.1 p203 pinj pcr pcr (fun _ _ _ => rfl) (mL_at l D ct (fun z => ad ((fun z => 198 + z) z)) Z r (nI q) n hg) cw_L_38 rfl rfl ⟨Nat.le_of_ble_eq_true rfl, Nat.le_of_ble_eq_true rfl⟩ (Nat.le_of_ble_eq_true rfl) dL_wouldBe_52 ⟨(show 0 ≤ 52 by omega), (show 0 ≤ 1391 by omega)⟩ (fun H locs hP hS => ?_)
      refine lv_iload hx hb dL_wouldBe_55 (lv_at hl 2 rfl) ?_
      refine lv_icmp_eq (tgt := 64) hx hb dL_wouldBe_57 (by decide) (fun c57 => ?_) (fun c57 => ?_)
      · refine lv_iconst (v := nI 0) hx hb dL_wouldBe_64 (by decide) ?_
        exact lv_tveq (show Value.int (nI 0) = Value.int (bi (tknB Z n k (nI q))) from by first | exact congrArg Value.int (congrArg bi (tk_neg hn10 c44)).symm | exact congrArg Value.int (congrArg bi (tk_same c57)).symm | exact congrArg Value.int (congrArg bi (tk_yes hn10 (Int32.not_lt.mpr c44) c57)).symm) (hJ65 _ _ hP hS)
      · refine lv_iconst (v := nI 1) hx hb dL_wouldBe_60 (by decide) ?_
        refine lv_goto (tgt := 65) hx hb dL_wouldBe_61 (by decide) ?_
        exact lv_tveq (show Value.int (nI 1) = Value.int (bi (tknB Z n k (nI q))) from by first | exact congrArg Value.int (congrArg bi (tk_neg hn10 c44)).symm | exact congrArg Value.int (congrArg bi (tk_same c57)).symm | exact congrArg Value.int (congrArg bi (tk_yes hn10 (Int32.not_lt.mpr c44) c57)).symm) (hJ65 _ _ hP hS)
  intro H locs hP hS
  refine lv_istore (lv' := [(10, .int (bi (tknB Z n k (nI q)))), (9, .int (nI (1 + h2))), (8, .int (nI q)), (7, .int (nI k)), (0, .ref (ad 0)), (1, .ref (ad 198)), (2, .ref (ad 199)), (3, .ref (ad 200)), (4, .ref (ad 201)), (5, .ref (ad 202)), (6, .int (hv))]) hx hb dL_wouldBe_65 hl (by decide) rfl (fun ls hl => ?_)
  refine lv_iload hx hb dL_wouldBe_67 (lv_at hl 0 rfl) ?_
  suffices hJ204 : ∀ (H : Heap) (locs : List Loc) (ls : Array Slot), fP D 203 ad (pcw O3 (lwc ct Z r)) H → va_S (nF 203 ad sz) s.heap H locs → lv_has ls 21 [(13, .int (nI 1)), (9, .int (nI (1 + h2))), (8, .int (nI q)), (7, .int (nI k)), (0, .ref (ad 0)), (1, .ref (ad 198)), (2, .ref (ad 199)), (3, .ref (ad 200)), (4, .ref (ad 201)), (5, .ref (ad 202)), (6, .int (hv))] → W p l e ({ frames := 7, cells := 52, slots := 1391, locals := 160 }) s m args below meth c H locs (4) (107) (MQ below (nQ D ct 203 ad sz (some (.int (nI 1))) (pcw O4 (lwc ct Z r))) args s 52 1391 (nF 203 ad sz)) (F0 m 204 ls []) by
    refine lv_ifeqB (tgt := 76) hx hb dL_wouldBe_69 (by decide) (fun c69 => ?_) (fun c69 => ?_)
    · have e10 : bi (tknB Z n k (nI q)) = nI 0 := by rw [c69]; rfl
      rw [e10] at hl
      refine lv_aload_n hx hb dL_wouldBe_76 rfl (lv_at hl 5 rfl) ?_
      refine lv_aload_n hx hb dL_wouldBe_77 rfl (lv_at hl 6 rfl) ?_
      refine lv_aload_n hx hb dL_wouldBe_78 rfl (lv_at hl 7 rfl) ?_
      refine lv_aload hx hb dL_wouldBe_79 (lv_at hl 8 rfl) ?_
      refine lv_aload hx hb dL_wouldBe_81 (lv_at hl 9 rfl) ?_
      refine lv_iload hx hb dL_wouldBe_83 (lv_at hl 3 rfl) ?_
      refine lv_iload hx hb dL_wouldBe_85 (lv_at hl 2 rfl) ?_
      refine lv_iload hx hb dL_wouldBe_87 (lv_at hl 1 rfl) ?_
      refine nw_N (N1 := 5) (nm := fun z => 198 + z) (ce1 := lwc ct Z r) (ce1' := lwc ct Z r) (ce' := pcw O (lwc ct Z r)) (As := [.ref (ad 198), .ref (ad 199), .ref (ad 200), .ref (ad 201), .ref (ad 202), .int (nI k), .int (nI q), .int (nI (1 + h2))]) (rest := []) hx hb hml hown htg hK hI hP hS hA hA0 hl.1 p203 pinj pcr pcr (fun _ _ _ => rfl) (mL_goOn l D ct (fun z => ad (198 + z)) _ Z r n k q (1 + h2) h9 hO ho hg hb9 (by omega) (by omega) (by omega) (by omega)) cw_L_65 rfl rfl ⟨Nat.le_of_ble_eq_true rfl, Nat.le_of_ble_eq_true rfl⟩ (Nat.le_of_ble_eq_true rfl) dL_wouldBe_89 ⟨(show 0 + 4 ≤ 52 by omega), (show 0 + 107 ≤ 1391 by omega)⟩ (fun H locs hP hS => ?_)
      refine lv_lstore (lv' := [(11, .long (goV Z n k q (1 + h2))), (10, .int (nI 0)), (9, .int (nI (1 + h2))), (8, .int (nI q)), (7, .int (nI k)), (0, .ref (ad 0)), (1, .ref (ad 198)), (2, .ref (ad 199)), (3, .ref (ad 200)), (4, .ref (ad 201)), (5, .ref (ad 202)), (6, .int (hv))]) hx hb dL_wouldBe_92 hl (by decide) rfl (fun ls hl => ?_)
      refine lv_aload_n hx hb dL_wouldBe_94 rfl (lv_at hl 5 rfl) ?_
      refine lv_iload hx hb dL_wouldBe_95 (lv_at hl 4 rfl) ?_
      refine lv_iload hx hb dL_wouldBe_97 (lv_at hl 3 rfl) ?_
      refine lv_iload hx hb dL_wouldBe_99 (lv_at hl 2 rfl) ?_
      refine lv_iconst (v := nI 0) hx hb dL_wouldBe_101 (by decide) ?_
      refine nw_Or (ceO := O) (ceO' := O1) (ce' := pcw O1 (lwc ct Z r)) (As := [.int (nI k), .int (nI q), .int (nI (1 + h2)), .int (nI 0)]) (rest := []) hx hb hml hown htg hK hI hP hS hA0 hl.1 (by decide) pcl pcl pch hM1 cw_L_69 h01 rfl rfl ⟨Nat.le_of_ble_eq_true rfl, Nat.le_of_ble_eq_true rfl⟩ (Nat.le_of_ble_eq_true rfl) dL_wouldBe_102 ⟨(show 0 + 4 ≤ 52 by omega), (show 0 + 107 ≤ 1391 by omega)⟩ (fun H locs hP hS => ?_)
      refine lv_i2l (v := Int32.toInt64 (wpR Z n k q (1 + h2) 0)) hx hb dL_wouldBe_105 rfl ?_
      refine lv_iload hx hb dL_wouldBe_106 (lv_at hl 1 rfl) ?_
      refine lv_if_eq (tgt := 117) hx hb dL_wouldBe_108 (by decide) (fun _ => ?_) (fun h => absurd (by decide) h)
      refine lv_lload hx hb dL_wouldBe_117 (lv_at hl 0 rfl) ?_
      refine lv_ldc2 hx hb hown (htg _ k2_L_60) dL_wouldBe_119 ?_
      refine lv_lrem hx hb dL_wouldBe_122 (by decide) ?_
      refine lw_lcmp_eq hx hb ((by first | exact (wb_eq hO ho hk hq (by omega) c69).1 | (rw [wp_tk c69]; decide))) dL_wouldBe_123 ?_
      refine lv_teq (show (0 : Int32) = nI 0 from rfl) ?_
      refine lv_if_ne (tgt := 201) hx hb dL_wouldBe_124 (by decide) (fun h => absurd (by decide) h) (fun _ => ?_)
      refine lv_aload_n hx hb dL_wouldBe_127 rfl (lv_at hl 5 rfl) ?_
      refine lv_iload hx hb dL_wouldBe_128 (lv_at hl 4 rfl) ?_
      refine lv_iload hx hb dL_wouldBe_130 (lv_at hl 3 rfl) ?_
      refine lv_iload hx hb dL_wouldBe_132 (lv_at hl 2 rfl) ?_
      refine lv_iconst (v := nI 1) hx hb dL_wouldBe_134 (by decide) ?_
      refine nw_Or (ceO := O1) (ceO' := O2) (ce' := pcw O2 (lwc ct Z r)) (As := [.int (nI k), .int (nI q), .int (nI (1 + h2)), .int (nI 1)]) (rest := []) hx hb hml hown htg hK hI hP hS hA0 hl.1 (by decide) pcl pcl pch hM2 cw_L_69 h02 rfl rfl ⟨Nat.le_of_ble_eq_true rfl, Nat.le_of_ble_eq_true rfl⟩ (Nat.le_of_ble_eq_true rfl) dL_wouldBe_135 ⟨(show 0 + 4 ≤ 52 by omega), (show 0 + 107 ≤ 1391 by omega)⟩ (fun H locs hP hS => ?_)
      refine lv_i2l (v := Int32.toInt64 (wpR Z n k q (1 + h2) 1)) hx hb dL_wouldBe_138 rfl ?_
      refine lv_iload hx hb dL_wouldBe_139 (lv_at hl 1 rfl) ?_
      refine lv_if_eq (tgt := 150) hx hb dL_wouldBe_141 (by decide) (fun _ => ?_) (fun h => absurd (by decide) h)
      refine lv_lload hx hb dL_wouldBe_150 (lv_at hl 0 rfl) ?_
      refine lv_ldc2 hx hb hown (htg _ k2_L_60) dL_wouldBe_152 ?_
      refine lv_ldiv hx hb dL_wouldBe_155 (by decide) ?_
      refine lv_ldc2 hx hb hown (htg _ k2_L_60) dL_wouldBe_156 ?_
      refine lv_lrem hx hb dL_wouldBe_159 (by decide) ?_
      refine lw_lcmp_eq hx hb ((by first | exact (wb_eq hO ho hk hq (by omega) c69).2.1 | (rw [wp_tk c69]; decide))) dL_wouldBe_160 ?_
      refine lv_teq (show (0 : Int32) = nI 0 from rfl) ?_
      refine lv_if_ne (tgt := 201) hx hb dL_wouldBe_161 (by decide) (fun h => absurd (by decide) h) (fun _ => ?_)
      refine lv_aload_n hx hb dL_wouldBe_164 rfl (lv_at hl 5 rfl) ?_
      refine lv_iload hx hb dL_wouldBe_165 (lv_at hl 4 rfl) ?_
      refine lv_iload hx hb dL_wouldBe_167 (lv_at hl 3 rfl) ?_
      refine lv_iload hx hb dL_wouldBe_169 (lv_at hl 2 rfl) ?_
      refine lv_iconst (v := nI 2) hx hb dL_wouldBe_171 (by decide) ?_
      refine nw_Or (ceO := O2) (ceO' := O3) (ce' := pcw O3 (lwc ct Z r)) (As := [.int (nI k), .int (nI q), .int (nI (1 + h2)), .int (nI 2)]) (rest := []) hx hb hml hown htg hK hI hP hS hA0 hl.1 (by decide) pcl pcl pch hM3 cw_L_69 h03 rfl rfl ⟨Nat.le_of_ble_eq_true rfl, Nat.le_of_ble_eq_true rfl⟩ (Nat.le_of_ble_eq_true rfl) dL_wouldBe_172 ⟨(show 0 + 4 ≤ 52 by omega), (show 0 + 107 ≤ 1391 by omega)⟩ (fun H locs hP hS => ?_)
      refine lv_i2l (v := Int32.toInt64 (wpR Z n k q (1 + h2) 2)) hx hb dL_wouldBe_175 rfl ?_
      refine lv_iload hx hb dL_wouldBe_176 (lv_at hl 1 rfl) ?_
      refine lv_if_eq (tgt := 187) hx hb dL_wouldBe_178 (by decide) (fun _ => ?_) (fun h => absurd (by decide) h)
      refine lv_lload hx hb dL_wouldBe_187 (lv_at hl 0 rfl) ?_
      refine lv_ldc2 hx hb hown (htg _ k2_L_58) dL_wouldBe_189 ?_
      refine lv_ldiv hx hb dL_wouldBe_192 (by decide) ?_
      refine lw_lcmp_eq hx hb ((by first | exact (wb_eq hO ho hk hq (by omega) c69).2.2 | (rw [wp_tk c69]; decide))) dL_wouldBe_193 ?_
      refine lv_teq (show (0 : Int32) = nI 0 from rfl) ?_
      refine lv_if_ne (tgt := 201) hx hb dL_wouldBe_194 (by decide) (fun h => absurd (by decide) h) (fun _ => ?_)
      refine lv_iconst (v := nI 1) hx hb dL_wouldBe_197 (by decide) ?_
      refine lv_goto (tgt := 202) hx hb dL_wouldBe_198 (by decide) ?_
      refine lv_istore (lv' := [(13, .int (nI 1)), (11, .long (goV Z n k q (1 + h2))), (10, .int (nI 0)), (9, .int (nI (1 + h2))), (8, .int (nI q)), (7, .int (nI k)), (0, .ref (ad 0)), (1, .ref (ad 198)), (2, .ref (ad 199)), (3, .ref (ad 200)), (4, .ref (ad 201)), (5, .ref (ad 202)), (6, .int (hv))]) hx hb dL_wouldBe_202 hl (by decide) rfl (fun ls hl => ?_)
      have hl := lv_sub (l' := [(13, .int (nI 1)), (9, .int (nI (1 + h2))), (8, .int (nI q)), (7, .int (nI k)), (0, .ref (ad 0)), (1, .ref (ad 198)), (2, .ref (ad 199)), (3, .ref (ad 200)), (4, .ref (ad 201)), (5, .ref (ad 202)), (6, .int (hv))]) hl [0, 3, 4, 5, 6, 7, 8, 9, 10, 11, 12] rfl
      exact W_wide (by omega) (by omega) (hJ204 _ _ _ hP hS hl)
    · have e10 : bi (tknB Z n k (nI q)) = nI 1 := by rw [c69]; rfl
      rw [e10] at hl
      refine lv_lconst (v := 0) hx hb dL_wouldBe_72 rfl ?_
      refine lv_goto (tgt := 92) hx hb dL_wouldBe_73 (by decide) ?_
      refine lv_lstore (lv' := [(11, .long (0)), (10, .int (nI 1)), (9, .int (nI (1 + h2))), (8, .int (nI q)), (7, .int (nI k)), (0, .ref (ad 0)), (1, .ref (ad 198)), (2, .ref (ad 199)), (3, .ref (ad 200)), (4, .ref (ad 201)), (5, .ref (ad 202)), (6, .int (hv))]) hx hb dL_wouldBe_92 hl (by decide) rfl (fun ls hl => ?_)
      refine lv_aload_n hx hb dL_wouldBe_94 rfl (lv_at hl 5 rfl) ?_
      refine lv_iload hx hb dL_wouldBe_95 (lv_at hl 4 rfl) ?_
      refine lv_iload hx hb dL_wouldBe_97 (lv_at hl 3 rfl) ?_
      refine lv_iload hx hb dL_wouldBe_99 (lv_at hl 2 rfl) ?_
      refine lv_iconst (v := nI 0) hx hb dL_wouldBe_101 (by decide) ?_
      refine nw_Or (ceO := O) (ceO' := O1) (ce' := pcw O1 (lwc ct Z r)) (As := [.int (nI k), .int (nI q), .int (nI (1 + h2)), .int (nI 0)]) (rest := []) hx hb hml hown htg hK hI hP hS hA0 hl.1 (by decide) pcl pcl pch hM1 cw_L_69 h01 rfl rfl ⟨Nat.le_of_ble_eq_true rfl, Nat.le_of_ble_eq_true rfl⟩ (Nat.le_of_ble_eq_true rfl) dL_wouldBe_102 ⟨(show 0 ≤ 52 by omega), (show 0 ≤ 1391 by omega)⟩ (fun H locs hP hS => ?_)
      refine lv_i2l (v := Int32.toInt64 (wpR Z n k q (1 + h2) 0)) hx hb dL_wouldBe_105 rfl ?_
      refine lv_iload hx hb dL_wouldBe_106 (lv_at hl 1 rfl) ?_
      refine lv_if_eq (tgt := 117) hx hb dL_wouldBe_108 (by decide) (fun h => absurd h (by decide)) (fun _ => ?_)
      refine lv_ldc2 hx hb hown (htg _ k2_L_73) dL_wouldBe_111 ?_
      refine lv_goto (tgt := 123) hx hb dL_wouldBe_114 (by decide) ?_
      refine lw_lcmp_eq hx hb ((by first | exact (wb_eq hO ho hk hq (by omega) c69).1 | (rw [wp_tk c69]; decide))) dL_wouldBe_123 ?_
      refine lv_teq (show (0 : Int32) = nI 0 from rfl) ?_
      refine lv_if_ne (tgt := 201) hx hb dL_wouldBe_124 (by decide) (fun h => absurd (by decide) h) (fun _ => ?_)
      refine lv_aload_n hx hb dL_wouldBe_127 rfl (lv_at hl 5 rfl) ?_
      refine lv_iload hx hb dL_wouldBe_128 (lv_at hl 4 rfl) ?_
      refine lv_iload hx hb dL_wouldBe_130 (lv_at hl 3 rfl) ?_
      refine lv_iload hx hb dL_wouldBe_132 (lv_at hl 2 rfl) ?_
      refine lv_iconst (v := nI 1) hx hb dL_wouldBe_134 (by decide) ?_
      refine nw_Or (ceO := O1) (ceO' := O2) (ce' := pcw O2 (lwc ct Z r)) (As := [.int (nI k), .int (nI q), .int (nI (1 + h2)), .int (nI 1)]) (rest := []) hx hb hml hown htg hK hI hP hS hA0 hl.1 (by decide) pcl pcl pch hM2 cw_L_69 h02 rfl rfl ⟨Nat.le_of_ble_eq_true rfl, Nat.le_of_ble_eq_true rfl⟩ (Nat.le_of_ble_eq_true rfl) dL_wouldBe_135 ⟨(show 0 ≤ 52 by omega), (show 0 ≤ 1391 by omega)⟩ (fun H locs hP hS => ?_)
      refine lv_i2l (v := Int32.toInt64 (wpR Z n k q (1 + h2) 1)) hx hb dL_wouldBe_138 rfl ?_
      refine lv_iload hx hb dL_wouldBe_139 (lv_at hl 1 rfl) ?_
      refine lv_if_eq (tgt := 150) hx hb dL_wouldBe_141 (by decide) (fun h => absurd h (by decide)) (fun _ => ?_)
      refine lv_ldc2 hx hb hown (htg _ k2_L_73) dL_wouldBe_144 ?_
      refine lv_goto (tgt := 160) hx hb dL_wouldBe_147 (by decide) ?_
      refine lw_lcmp_eq hx hb ((by first | exact (wb_eq hO ho hk hq (by omega) c69).2.1 | (rw [wp_tk c69]; decide))) dL_wouldBe_160 ?_
      refine lv_teq (show (0 : Int32) = nI 0 from rfl) ?_
      refine lv_if_ne (tgt := 201) hx hb dL_wouldBe_161 (by decide) (fun h => absurd (by decide) h) (fun _ => ?_)
      refine lv_aload_n hx hb dL_wouldBe_164 rfl (lv_at hl 5 rfl) ?_
      refine lv_iload hx hb dL_wouldBe_165 (lv_at hl 4 rfl) ?_
      refine lv_iload hx hb dL_wouldBe_167 (lv_at hl 3 rfl) ?_
      refine lv_iload hx hb dL_wouldBe_169 (lv_at hl 2 rfl) ?_
      refine lv_iconst (v := nI 2) hx hb dL_wouldBe_171 (by decide) ?_
      refine nw_Or (ceO := O2) (ceO' := O3) (ce' := pcw O3 (lwc ct Z r)) (As := [.int (nI k), .int (nI q), .int (nI (1 + h2)), .int (nI 2)]) (rest := []) hx hb hml hown htg hK hI hP hS hA0 hl.1 (by decide) pcl pcl pch hM3 cw_L_69 h03 rfl rfl ⟨Nat.le_of_ble_eq_true rfl, Nat.le_of_ble_eq_true rfl⟩ (Nat.le_of_ble_eq_true rfl) dL_wouldBe_172 ⟨(show 0 ≤ 52 by omega), (show 0 ≤ 1391 by omega)⟩ (fun H locs hP hS => ?_)
      refine lv_i2l (v := Int32.toInt64 (wpR Z n k q (1 + h2) 2)) hx hb dL_wouldBe_175 rfl ?_
      refine lv_iload hx hb dL_wouldBe_176 (lv_at hl 1 rfl) ?_
      refine lv_if_eq (tgt := 187) hx hb dL_wouldBe_178 (by decide) (fun h => absurd h (by decide)) (fun _ => ?_)
      refine lv_ldc2 hx hb hown (htg _ k2_L_73) dL_wouldBe_181 ?_
      refine lv_goto (tgt := 193) hx hb dL_wouldBe_184 (by decide) ?_
      refine lw_lcmp_eq hx hb ((by first | exact (wb_eq hO ho hk hq (by omega) c69).2.2 | (rw [wp_tk c69]; decide))) dL_wouldBe_193 ?_
      refine lv_teq (show (0 : Int32) = nI 0 from rfl) ?_
      refine lv_if_ne (tgt := 201) hx hb dL_wouldBe_194 (by decide) (fun h => absurd (by decide) h) (fun _ => ?_)
      refine lv_iconst (v := nI 1) hx hb dL_wouldBe_197 (by decide) ?_
      refine lv_goto (tgt := 202) hx hb dL_wouldBe_198 (by decide) ?_
      refine lv_istore (lv' := [(13, .int (nI 1)), (11, .long (0)), (10, .int (nI 1)), (9, .int (nI (1 + h2))), (8, .int (nI q)), (7, .int (nI k)), (0, .ref (ad 0)), (1, .ref (ad 198)), (2, .ref (ad 199)), (3, .ref (ad 200)), (4, .ref (ad 201)), (5, .ref (ad 202)), (6, .int (hv))]) hx hb dL_wouldBe_202 hl (by decide) rfl (fun ls hl => ?_)
      have hl := lv_sub (l' := [(13, .int (nI 1)), (9, .int (nI (1 + h2))), (8, .int (nI q)), (7, .int (nI k)), (0, .ref (ad 0)), (1, .ref (ad 198)), (2, .ref (ad 199)), (3, .ref (ad 200)), (4, .ref (ad 201)), (5, .ref (ad 202)), (6, .int (hv))]) hl [0, 3, 4, 5, 6, 7, 8, 9, 10, 11, 12] rfl
      exact W_wide (by omega) (by omega) (hJ204 _ _ _ hP hS hl)
  intro H locs ls hP hS hl
  refine lv_iconst (v := -1) hx hb dL_wouldBe_204 (by decide) ?_
  refine lv_istore (lv' := [(14, .int (-1)), (13, .int (nI 1)), (9, .int (nI (1 + h2))), (8, .int (nI q)), (7, .int (nI k)), (0, .ref (ad 0)), (1, .ref (ad 198)), (2, .ref (ad 199)), (3, .ref (ad 200)), (4, .ref (ad 201)), (5, .ref (ad 202)), (6, .int (hv))]) hx hb dL_wouldBe_205 hl (by decide) rfl (fun ls hl => ?_)
  refine lv_lconst (v := 0) hx hb dL_wouldBe_207 rfl ?_
  refine lv_lstore (lv' := [(15, .long (0)), (14, .int (-1)), (13, .int (nI 1)), (9, .int (nI (1 + h2))), (8, .int (nI q)), (7, .int (nI k)), (0, .ref (ad 0)), (1, .ref (ad 198)), (2, .ref (ad 199)), (3, .ref (ad 200)), (4, .ref (ad 201)), (5, .ref (ad 202)), (6, .int (hv))]) hx hb dL_wouldBe_208 hl (by decide) rfl (fun ls hl => ?_)
  refine lv_bipush (v := nI 11) hx hb dL_wouldBe_210 (by decide) ?_
  refine lv_istore (lv' := [(17, .int (nI 11)), (15, .long (0)), (14, .int (-1)), (13, .int (nI 1)), (9, .int (nI (1 + h2))), (8, .int (nI q)), (7, .int (nI k)), (0, .ref (ad 0)), (1, .ref (ad 198)), (2, .ref (ad 199)), (3, .ref (ad 200)), (4, .ref (ad 201)), (5, .ref (ad 202)), (6, .int (hv))]) hx hb dL_wouldBe_212 hl (by decide) rfl (fun ls hl => ?_)
  have lp214 : ∀ (fu214 : Nat) (i : Nat), i ≤ 12 → 12 - i < fu214 → ∀ (H : Heap) (locs : List Loc), fP D 203 ad (pcw O3 (lwc ct Z r)) H → va_S (nF 203 ad sz) s.heap H locs → ∀ (ls : Array Slot), lv_has ls 21 [(17, .int (dnI i)), (15, .long ((dnS Z n k i).2)), (14, .int ((dnS Z n k i).1)), (13, .int (nI 1)), (9, .int (nI (1 + h2))), (8, .int (nI q)), (7, .int (nI k)), (0, .ref (ad 0)), (1, .ref (ad 198)), (2, .ref (ad 199)), (3, .ref (ad 200)), (4, .ref (ad 201)), (5, .ref (ad 202)), (6, .int (hv))] → W p l e ({ frames := 7, cells := 52, slots := 1391, locals := 160 }) s m args below meth c H locs (4 + 4 * i) (107 + 107 * i) (MQ below (nQ D ct 203 ad sz (some (.int (nI 1))) (pcw O4 (lwc ct Z r))) args s 52 1391 (nF 203 ad sz)) (F0 m 214 ls []) := by
    intro fu214
    induction fu214 with
    | zero => intro i hi hfu214; exact absurd hfu214 (Nat.not_lt_zero _)
    | succ fu214 ih214 =>
      intro i hi hfu214 H locs hP hS ls hl
      refine lv_iload hx hb dL_wouldBe_214 (lv_at hl 0 rfl) ?_
      refine lv_ifltR (tgt := 319) hx hb dL_wouldBe_216 (by decide) (fun c216 => ?_) (fun c216 => ?_)
      · have e9 := dnI_neg hi c216
        subst e9
        refine lv_iload hx hb dL_wouldBe_319 (lv_at hl 3 rfl) ?_
        refine lv_if_eq (tgt := 339) hx hb dL_wouldBe_321 (by decide) (fun h => absurd h (by decide)) (fun _ => ?_)
        refine lv_aload_n hx hb dL_wouldBe_324 rfl (lv_at hl 7 rfl) ?_
        refine lv_iload hx hb dL_wouldBe_325 (lv_at hl 6 rfl) ?_
        refine nw_Or (ceO := O3) (ceO' := O4) (ce' := pcw O4 (lwc ct Z r)) (As := [.int (nI k)]) (rest := []) hx hb hml hown htg hK hI hP hS hA0 hl.1 (by decide) pcl pcl pch hM4 cw_L_75 h04 rfl rfl ⟨Nat.le_of_ble_eq_true rfl, Nat.le_of_ble_eq_true rfl⟩ (Nat.le_of_ble_eq_true rfl) dL_wouldBe_327 ⟨(show 4 + 4 * 12 ≤ 52 by omega), (show 107 + 107 * 12 ≤ 1391 by omega)⟩ (fun H locs hP hS => ?_)
        refine lv_iload hx hb dL_wouldBe_330 (lv_at hl 2 rfl) ?_
        refine lv_icmp_ne (tgt := 339) hx hb dL_wouldBe_332 (by decide) (fun h => absurd (best_eq hO ho hk) h) (fun _ => ?_)
        refine lv_iconst (v := nI 1) hx hb dL_wouldBe_335 (by decide) ?_
        refine lv_goto (tgt := 340) hx hb dL_wouldBe_336 (by decide) ?_
        exact nw_iret hx hb hr hlocks hK hI hS rfl dL_wouldBe_340 rfl hP
      · have hi12 := dnI_pos hi (Int32.not_lt.mpr c216)
        refine lv_aload_n hx hb dL_wouldBe_219 rfl (lv_at hl 8 rfl) ?_
        refine lv_aload hx hb dL_wouldBe_220 (lv_at hl 12 rfl) ?_
        refine lv_iload hx hb dL_wouldBe_222 (lv_at hl 0 rfl) ?_
        refine lv_teq (dnI_at hi12) ?_
        refine nw_Sr (N1 := 5) (nm := (fun z => 198 + z)) (ce1 := lwc ct Z r) (ce1' := lwc ct Z r) (ce' := pcw O3 (lwc ct Z r)) (As := [.ref (ad 198), .ref (ad 202), .int (nI (11 - i))]) (rest := []) hx hb hml hown htg hK hI hP hS hA0 hl.1 p203 pinj pcr pcr (fun _ _ _ => rfl) (mL_at l D ct (fun z => ad ((fun z => 198 + z) z)) Z r (nI (11 - i)) n hg) cw_L_38 rfl rfl ⟨Nat.le_of_ble_eq_true rfl, Nat.le_of_ble_eq_true rfl⟩ (Nat.le_of_ble_eq_true rfl) dL_wouldBe_224 ⟨(show 4 + 4 * i ≤ 52 by omega), (show 107 + 107 * i ≤ 1391 by omega)⟩ (fun H locs hP hS => ?_)
        refine lv_ifltR (tgt := 243) hx hb dL_wouldBe_227 (by decide) (fun c227 => ?_) (fun c227 => ?_)
        · refine lv_aload_n hx hb dL_wouldBe_243 rfl (lv_at hl 8 rfl) ?_
          refine lv_aload_n hx hb dL_wouldBe_244 rfl (lv_at hl 9 rfl) ?_
          refine lv_aload_n hx hb dL_wouldBe_245 rfl (lv_at hl 10 rfl) ?_
          refine lv_aload hx hb dL_wouldBe_246 (lv_at hl 11 rfl) ?_
          refine lv_aload hx hb dL_wouldBe_248 (lv_at hl 12 rfl) ?_
          refine lv_iload hx hb dL_wouldBe_250 (lv_at hl 6 rfl) ?_
          refine lv_iload hx hb dL_wouldBe_252 (lv_at hl 0 rfl) ?_
          refine lv_teq (dnI_at hi12) ?_
          refine lv_bipush (v := nI 24) hx hb dL_wouldBe_254 (by decide) ?_
          refine nw_N (N1 := 5) (nm := fun z => 198 + z) (ce1 := lwc ct Z r) (ce1' := lwc ct Z r) (ce' := pcw O3 (lwc ct Z r)) (As := [.ref (ad 198), .ref (ad 199), .ref (ad 200), .ref (ad 201), .ref (ad 202), .int (nI k), .int (nI (11 - i)), .int (nI 24)]) (rest := []) hx hb hml hown htg hK hI hP hS hA hA0 hl.1 p203 pinj pcr pcr (fun _ _ _ => rfl) (mL_goOn l D ct (fun z => ad (198 + z)) _ Z r n k (11 - i) 24 h9 hO ho hg hb9 (by omega) (by omega) (by omega) (by omega)) cw_L_65 rfl rfl ⟨Nat.le_of_ble_eq_true rfl, Nat.le_of_ble_eq_true rfl⟩ (Nat.le_of_ble_eq_true rfl) dL_wouldBe_256 ⟨(show 4 + 4 * i + 4 ≤ 52 by omega), (show 107 + 107 * i + 107 ≤ 1391 by omega)⟩ (fun H locs hP hS => ?_)
          refine lv_ldc2 hx hb hown (htg _ k2_L_58) dL_wouldBe_259 ?_
          refine lv_lrem hx hb dL_wouldBe_262 (by decide) ?_
          refine lv_lstore (lv' := [(18, .long ((goV Z n k (11 - i) 24) - (goV Z n k (11 - i) 24) / 1000000 * 1000000)), (17, .int (dnI i)), (15, .long ((dnS Z n k i).2)), (14, .int ((dnS Z n k i).1)), (13, .int (nI 1)), (9, .int (nI (1 + h2))), (8, .int (nI q)), (7, .int (nI k)), (0, .ref (ad 0)), (1, .ref (ad 198)), (2, .ref (ad 199)), (3, .ref (ad 200)), (4, .ref (ad 201)), (5, .ref (ad 202)), (6, .int (hv))]) hx hb dL_wouldBe_263 hl (by decide) rfl (fun ls hl => ?_)
          refine lv_iload hx hb dL_wouldBe_265 (lv_at hl 3 rfl) ?_
          refine lv_ifltR (tgt := 278) hx hb dL_wouldBe_267 (by decide) (fun c267 => ?_) (fun c267 => ?_)
          · refine lv_iconst (v := nI 1) hx hb dL_wouldBe_278 (by decide) ?_
            refine lv_goto (tgt := 283) hx hb dL_wouldBe_279 (by decide) ?_
            refine lv_istore (lv' := [(20, .int (nI 1)), (18, .long ((goV Z n k (11 - i) 24) - (goV Z n k (11 - i) 24) / 1000000 * 1000000)), (17, .int (dnI i)), (15, .long ((dnS Z n k i).2)), (14, .int ((dnS Z n k i).1)), (13, .int (nI 1)), (9, .int (nI (1 + h2))), (8, .int (nI q)), (7, .int (nI k)), (0, .ref (ad 0)), (1, .ref (ad 198)), (2, .ref (ad 199)), (3, .ref (ad 200)), (4, .ref (ad 201)), (5, .ref (ad 202)), (6, .int (hv))]) hx hb dL_wouldBe_283 hl (by decide) rfl (fun ls hl => ?_)
            refine lv_iload hx hb dL_wouldBe_285 (lv_at hl 0 rfl) ?_
            refine lv_if_eq (tgt := 295) hx hb dL_wouldBe_287 (by decide) (fun h => absurd h (by decide)) (fun _ => ?_)
            refine lv_iload hx hb dL_wouldBe_290 (lv_at hl 2 rfl) ?_
            refine lv_teq (dnI_at hi12) ?_
            refine lv_goto (tgt := 297) hx hb dL_wouldBe_292 (by decide) ?_
            refine lv_istore (lv' := [(14, .int (nI (11 - i))), (20, .int (nI 1)), (18, .long ((goV Z n k (11 - i) 24) - (goV Z n k (11 - i) 24) / 1000000 * 1000000)), (17, .int (dnI i)), (15, .long ((dnS Z n k i).2)), (13, .int (nI 1)), (9, .int (nI (1 + h2))), (8, .int (nI q)), (7, .int (nI k)), (0, .ref (ad 0)), (1, .ref (ad 198)), (2, .ref (ad 199)), (3, .ref (ad 200)), (4, .ref (ad 201)), (5, .ref (ad 202)), (6, .int (hv))]) hx hb dL_wouldBe_297 hl (by decide) rfl (fun ls hl => ?_)
            refine lv_iload hx hb dL_wouldBe_299 (lv_at hl 1 rfl) ?_
            refine lv_if_eq (tgt := 309) hx hb dL_wouldBe_301 (by decide) (fun h => absurd h (by decide)) (fun _ => ?_)
            refine lv_lload hx hb dL_wouldBe_304 (lv_at hl 2 rfl) ?_
            refine lv_goto (tgt := 311) hx hb dL_wouldBe_306 (by decide) ?_
            refine lv_lstore (lv' := [(15, .long ((goV Z n k (11 - i) 24) - (goV Z n k (11 - i) 24) / 1000000 * 1000000)), (14, .int (nI (11 - i))), (20, .int (nI 1)), (18, .long ((goV Z n k (11 - i) 24) - (goV Z n k (11 - i) 24) / 1000000 * 1000000)), (17, .int (dnI i)), (13, .int (nI 1)), (9, .int (nI (1 + h2))), (8, .int (nI q)), (7, .int (nI k)), (0, .ref (ad 0)), (1, .ref (ad 198)), (2, .ref (ad 199)), (3, .ref (ad 200)), (4, .ref (ad 201)), (5, .ref (ad 202)), (6, .int (hv))]) hx hb dL_wouldBe_311 hl (by decide) rfl (fun ls hl => ?_)
            refine lv_iinc (v := (dnI i) + (-1)) (lv' := [(17, .int ((dnI i) + (-1))), (15, .long ((goV Z n k (11 - i) 24) - (goV Z n k (11 - i) 24) / 1000000 * 1000000)), (14, .int (nI (11 - i))), (20, .int (nI 1)), (18, .long ((goV Z n k (11 - i) 24) - (goV Z n k (11 - i) 24) / 1000000 * 1000000)), (13, .int (nI 1)), (9, .int (nI (1 + h2))), (8, .int (nI q)), (7, .int (nI k)), (0, .ref (ad 0)), (1, .ref (ad 198)), (2, .ref (ad 199)), (3, .ref (ad 200)), (4, .ref (ad 201)), (5, .ref (ad 202)), (6, .int (hv))]) hx hb dL_wouldBe_313 hl (k := 4) rfl rfl (by decide) rfl (fun ls hl => ?_)
            refine lv_goto (tgt := 214) hx hb dL_wouldBe_316 (by decide) ?_
            have hl := lv_sub (l' := [(17, .int ((dnI i) + (-1))), (15, .long ((goV Z n k (11 - i) 24) - (goV Z n k (11 - i) 24) / 1000000 * 1000000)), (14, .int (nI (11 - i))), (13, .int (nI 1)), (9, .int (nI (1 + h2))), (8, .int (nI q)), (7, .int (nI k)), (0, .ref (ad 0)), (1, .ref (ad 198)), (2, .ref (ad 199)), (3, .ref (ad 200)), (4, .ref (ad 201)), (5, .ref (ad 202)), (6, .int (hv))]) hl [0, 1, 2, 5, 6, 7, 8, 9, 10, 11, 12, 13, 14, 15] rfl
            have le17 : Value.int ((dnI i) + (-1)) = Value.int (dnI (i + 1)) := by exact congrArg Value.int (dnI_s hi12)
            have le15 : Value.long ((goV Z n k (11 - i) 24) - (goV Z n k (11 - i) 24) / 1000000 * 1000000) = Value.long ((dnS Z n k (i + 1)).2) := by exact congrArg Value.long (congrArg Prod.snd (dn_2 (tk_neg hn10 c227) (Or.inl c267))).symm
            have le14 : Value.int (nI (11 - i)) = Value.int ((dnS Z n k (i + 1)).1) := by exact congrArg Value.int (congrArg Prod.fst (dn_2 (tk_neg hn10 c227) (Or.inl c267))).symm
            have hl := lv_hasE hl (lcons le17 (lcons le15 (lcons le14 (lcons rfl (lcons rfl (lcons rfl (lcons rfl (lcons rfl (lcons rfl (lcons rfl (lcons rfl (lcons rfl (lcons rfl (lcons rfl rfl))))))))))))))
            refine W_wide (k := 4 + 4 * (i + 1)) (n := 107 + 107 * (i + 1)) (by omega) (by omega) ?_
            exact ih214 (i + 1) (by omega) (by omega) _ _ hP hS _ hl
          · refine lv_lload hx hb dL_wouldBe_270 (lv_at hl 0 rfl) ?_
            refine lv_lload hx hb dL_wouldBe_272 (lv_at hl 2 rfl) ?_
            refine W.lcmp hx hb dL_wouldBe_274 ?_
            refine lv_ifgtR (tgt := 282) hx hb dL_wouldBe_275 (by decide) (fun c275 => ?_) (fun c275 => ?_)
            · refine lv_iconst (v := nI 0) hx hb dL_wouldBe_282 (by decide) ?_
              refine lv_istore (lv' := [(20, .int (nI 0)), (18, .long ((goV Z n k (11 - i) 24) - (goV Z n k (11 - i) 24) / 1000000 * 1000000)), (17, .int (dnI i)), (15, .long ((dnS Z n k i).2)), (14, .int ((dnS Z n k i).1)), (13, .int (nI 1)), (9, .int (nI (1 + h2))), (8, .int (nI q)), (7, .int (nI k)), (0, .ref (ad 0)), (1, .ref (ad 198)), (2, .ref (ad 199)), (3, .ref (ad 200)), (4, .ref (ad 201)), (5, .ref (ad 202)), (6, .int (hv))]) hx hb dL_wouldBe_283 hl (by decide) rfl (fun ls hl => ?_)
              refine lv_iload hx hb dL_wouldBe_285 (lv_at hl 0 rfl) ?_
              refine lv_if_eq (tgt := 295) hx hb dL_wouldBe_287 (by decide) (fun _ => ?_) (fun h => absurd (by decide) h)
              refine lv_iload hx hb dL_wouldBe_295 (lv_at hl 4 rfl) ?_
              refine lv_istore (lv' := [(14, .int ((dnS Z n k i).1)), (20, .int (nI 0)), (18, .long ((goV Z n k (11 - i) 24) - (goV Z n k (11 - i) 24) / 1000000 * 1000000)), (17, .int (dnI i)), (15, .long ((dnS Z n k i).2)), (13, .int (nI 1)), (9, .int (nI (1 + h2))), (8, .int (nI q)), (7, .int (nI k)), (0, .ref (ad 0)), (1, .ref (ad 198)), (2, .ref (ad 199)), (3, .ref (ad 200)), (4, .ref (ad 201)), (5, .ref (ad 202)), (6, .int (hv))]) hx hb dL_wouldBe_297 hl (by decide) rfl (fun ls hl => ?_)
              refine lv_iload hx hb dL_wouldBe_299 (lv_at hl 1 rfl) ?_
              refine lv_if_eq (tgt := 309) hx hb dL_wouldBe_301 (by decide) (fun _ => ?_) (fun h => absurd (by decide) h)
              refine lv_lload hx hb dL_wouldBe_309 (lv_at hl 4 rfl) ?_
              refine lv_lstore (lv' := [(15, .long ((dnS Z n k i).2)), (14, .int ((dnS Z n k i).1)), (20, .int (nI 0)), (18, .long ((goV Z n k (11 - i) 24) - (goV Z n k (11 - i) 24) / 1000000 * 1000000)), (17, .int (dnI i)), (13, .int (nI 1)), (9, .int (nI (1 + h2))), (8, .int (nI q)), (7, .int (nI k)), (0, .ref (ad 0)), (1, .ref (ad 198)), (2, .ref (ad 199)), (3, .ref (ad 200)), (4, .ref (ad 201)), (5, .ref (ad 202)), (6, .int (hv))]) hx hb dL_wouldBe_311 hl (by decide) rfl (fun ls hl => ?_)
              refine lv_iinc (v := (dnI i) + (-1)) (lv' := [(17, .int ((dnI i) + (-1))), (15, .long ((dnS Z n k i).2)), (14, .int ((dnS Z n k i).1)), (20, .int (nI 0)), (18, .long ((goV Z n k (11 - i) 24) - (goV Z n k (11 - i) 24) / 1000000 * 1000000)), (13, .int (nI 1)), (9, .int (nI (1 + h2))), (8, .int (nI q)), (7, .int (nI k)), (0, .ref (ad 0)), (1, .ref (ad 198)), (2, .ref (ad 199)), (3, .ref (ad 200)), (4, .ref (ad 201)), (5, .ref (ad 202)), (6, .int (hv))]) hx hb dL_wouldBe_313 hl (k := 4) rfl rfl (by decide) rfl (fun ls hl => ?_)
              refine lv_goto (tgt := 214) hx hb dL_wouldBe_316 (by decide) ?_
              have hl := lv_sub (l' := [(17, .int ((dnI i) + (-1))), (15, .long ((dnS Z n k i).2)), (14, .int ((dnS Z n k i).1)), (13, .int (nI 1)), (9, .int (nI (1 + h2))), (8, .int (nI q)), (7, .int (nI k)), (0, .ref (ad 0)), (1, .ref (ad 198)), (2, .ref (ad 199)), (3, .ref (ad 200)), (4, .ref (ad 201)), (5, .ref (ad 202)), (6, .int (hv))]) hl [0, 1, 2, 5, 6, 7, 8, 9, 10, 11, 12, 13, 14, 15] rfl
              have le17 : Value.int ((dnI i) + (-1)) = Value.int (dnI (i + 1)) := by exact congrArg Value.int (dnI_s hi12)
              have le15 : Value.long ((dnS Z n k i).2) = Value.long ((dnS Z n k (i + 1)).2) := by exact congrArg Value.long (congrArg Prod.snd (dn_3 (tk_neg hn10 c227) (Int32.not_lt.mpr c267) ((lg_cmp_gt _ _).mp c275))).symm
              have le14 : Value.int ((dnS Z n k i).1) = Value.int ((dnS Z n k (i + 1)).1) := by exact congrArg Value.int (congrArg Prod.fst (dn_3 (tk_neg hn10 c227) (Int32.not_lt.mpr c267) ((lg_cmp_gt _ _).mp c275))).symm
              have hl := lv_hasE hl (lcons le17 (lcons le15 (lcons le14 (lcons rfl (lcons rfl (lcons rfl (lcons rfl (lcons rfl (lcons rfl (lcons rfl (lcons rfl (lcons rfl (lcons rfl (lcons rfl rfl))))))))))))))
              refine W_wide (k := 4 + 4 * (i + 1)) (n := 107 + 107 * (i + 1)) (by omega) (by omega) ?_
              exact ih214 (i + 1) (by omega) (by omega) _ _ hP hS _ hl
            · refine lv_iconst (v := nI 1) hx hb dL_wouldBe_278 (by decide) ?_
              refine lv_goto (tgt := 283) hx hb dL_wouldBe_279 (by decide) ?_
              refine lv_istore (lv' := [(20, .int (nI 1)), (18, .long ((goV Z n k (11 - i) 24) - (goV Z n k (11 - i) 24) / 1000000 * 1000000)), (17, .int (dnI i)), (15, .long ((dnS Z n k i).2)), (14, .int ((dnS Z n k i).1)), (13, .int (nI 1)), (9, .int (nI (1 + h2))), (8, .int (nI q)), (7, .int (nI k)), (0, .ref (ad 0)), (1, .ref (ad 198)), (2, .ref (ad 199)), (3, .ref (ad 200)), (4, .ref (ad 201)), (5, .ref (ad 202)), (6, .int (hv))]) hx hb dL_wouldBe_283 hl (by decide) rfl (fun ls hl => ?_)
              refine lv_iload hx hb dL_wouldBe_285 (lv_at hl 0 rfl) ?_
              refine lv_if_eq (tgt := 295) hx hb dL_wouldBe_287 (by decide) (fun h => absurd h (by decide)) (fun _ => ?_)
              refine lv_iload hx hb dL_wouldBe_290 (lv_at hl 2 rfl) ?_
              refine lv_teq (dnI_at hi12) ?_
              refine lv_goto (tgt := 297) hx hb dL_wouldBe_292 (by decide) ?_
              refine lv_istore (lv' := [(14, .int (nI (11 - i))), (20, .int (nI 1)), (18, .long ((goV Z n k (11 - i) 24) - (goV Z n k (11 - i) 24) / 1000000 * 1000000)), (17, .int (dnI i)), (15, .long ((dnS Z n k i).2)), (13, .int (nI 1)), (9, .int (nI (1 + h2))), (8, .int (nI q)), (7, .int (nI k)), (0, .ref (ad 0)), (1, .ref (ad 198)), (2, .ref (ad 199)), (3, .ref (ad 200)), (4, .ref (ad 201)), (5, .ref (ad 202)), (6, .int (hv))]) hx hb dL_wouldBe_297 hl (by decide) rfl (fun ls hl => ?_)
              refine lv_iload hx hb dL_wouldBe_299 (lv_at hl 1 rfl) ?_
              refine lv_if_eq (tgt := 309) hx hb dL_wouldBe_301 (by decide) (fun h => absurd h (by decide)) (fun _ => ?_)
              refine lv_lload hx hb dL_wouldBe_304 (lv_at hl 2 rfl) ?_
              refine lv_goto (tgt := 311) hx hb dL_wouldBe_306 (by decide) ?_
              refine lv_lstore (lv' := [(15, .long ((goV Z n k (11 - i) 24) - (goV Z n k (11 - i) 24) / 1000000 * 1000000)), (14, .int (nI (11 - i))), (20, .int (nI 1)), (18, .long ((goV Z n k (11 - i) 24) - (goV Z n k (11 - i) 24) / 1000000 * 1000000)), (17, .int (dnI i)), (13, .int (nI 1)), (9, .int (nI (1 + h2))), (8, .int (nI q)), (7, .int (nI k)), (0, .ref (ad 0)), (1, .ref (ad 198)), (2, .ref (ad 199)), (3, .ref (ad 200)), (4, .ref (ad 201)), (5, .ref (ad 202)), (6, .int (hv))]) hx hb dL_wouldBe_311 hl (by decide) rfl (fun ls hl => ?_)
              refine lv_iinc (v := (dnI i) + (-1)) (lv' := [(17, .int ((dnI i) + (-1))), (15, .long ((goV Z n k (11 - i) 24) - (goV Z n k (11 - i) 24) / 1000000 * 1000000)), (14, .int (nI (11 - i))), (20, .int (nI 1)), (18, .long ((goV Z n k (11 - i) 24) - (goV Z n k (11 - i) 24) / 1000000 * 1000000)), (13, .int (nI 1)), (9, .int (nI (1 + h2))), (8, .int (nI q)), (7, .int (nI k)), (0, .ref (ad 0)), (1, .ref (ad 198)), (2, .ref (ad 199)), (3, .ref (ad 200)), (4, .ref (ad 201)), (5, .ref (ad 202)), (6, .int (hv))]) hx hb dL_wouldBe_313 hl (k := 4) rfl rfl (by decide) rfl (fun ls hl => ?_)
              refine lv_goto (tgt := 214) hx hb dL_wouldBe_316 (by decide) ?_
              have hl := lv_sub (l' := [(17, .int ((dnI i) + (-1))), (15, .long ((goV Z n k (11 - i) 24) - (goV Z n k (11 - i) 24) / 1000000 * 1000000)), (14, .int (nI (11 - i))), (13, .int (nI 1)), (9, .int (nI (1 + h2))), (8, .int (nI q)), (7, .int (nI k)), (0, .ref (ad 0)), (1, .ref (ad 198)), (2, .ref (ad 199)), (3, .ref (ad 200)), (4, .ref (ad 201)), (5, .ref (ad 202)), (6, .int (hv))]) hl [0, 1, 2, 5, 6, 7, 8, 9, 10, 11, 12, 13, 14, 15] rfl
              have le17 : Value.int ((dnI i) + (-1)) = Value.int (dnI (i + 1)) := by exact congrArg Value.int (dnI_s hi12)
              have le15 : Value.long ((goV Z n k (11 - i) 24) - (goV Z n k (11 - i) 24) / 1000000 * 1000000) = Value.long ((dnS Z n k (i + 1)).2) := by exact congrArg Value.long (congrArg Prod.snd (dn_2 (tk_neg hn10 c227) (Or.inr ((lg_cmp_le _ _).mp c275)))).symm
              have le14 : Value.int (nI (11 - i)) = Value.int ((dnS Z n k (i + 1)).1) := by exact congrArg Value.int (congrArg Prod.fst (dn_2 (tk_neg hn10 c227) (Or.inr ((lg_cmp_le _ _).mp c275)))).symm
              have hl := lv_hasE hl (lcons le17 (lcons le15 (lcons le14 (lcons rfl (lcons rfl (lcons rfl (lcons rfl (lcons rfl (lcons rfl (lcons rfl (lcons rfl (lcons rfl (lcons rfl (lcons rfl rfl))))))))))))))
              refine W_wide (k := 4 + 4 * (i + 1)) (n := 107 + 107 * (i + 1)) (by omega) (by omega) ?_
              exact ih214 (i + 1) (by omega) (by omega) _ _ hP hS _ hl
        · refine lv_aload_n hx hb dL_wouldBe_230 rfl (lv_at hl 8 rfl) ?_
          refine lv_aload hx hb dL_wouldBe_231 (lv_at hl 12 rfl) ?_
          refine lv_iload hx hb dL_wouldBe_233 (lv_at hl 0 rfl) ?_
          refine lv_teq (dnI_at hi12) ?_
          refine nw_Sr (N1 := 5) (nm := (fun z => 198 + z)) (ce1 := lwc ct Z r) (ce1' := lwc ct Z r) (ce' := pcw O3 (lwc ct Z r)) (As := [.ref (ad 198), .ref (ad 202), .int (nI (11 - i))]) (rest := []) hx hb hml hown htg hK hI hP hS hA0 hl.1 p203 pinj pcr pcr (fun _ _ _ => rfl) (mL_at l D ct (fun z => ad ((fun z => 198 + z) z)) Z r (nI (11 - i)) n hg) cw_L_38 rfl rfl ⟨Nat.le_of_ble_eq_true rfl, Nat.le_of_ble_eq_true rfl⟩ (Nat.le_of_ble_eq_true rfl) dL_wouldBe_235 ⟨(show 4 + 4 * i ≤ 52 by omega), (show 107 + 107 * i ≤ 1391 by omega)⟩ (fun H locs hP hS => ?_)
          refine lv_iload hx hb dL_wouldBe_238 (lv_at hl 6 rfl) ?_
          refine lv_icmp_ne (tgt := 313) hx hb dL_wouldBe_240 (by decide) (fun c240 => ?_) (fun c240 => ?_)
          · refine lv_iinc (v := (dnI i) + (-1)) (lv' := [(17, .int ((dnI i) + (-1))), (15, .long ((dnS Z n k i).2)), (14, .int ((dnS Z n k i).1)), (13, .int (nI 1)), (9, .int (nI (1 + h2))), (8, .int (nI q)), (7, .int (nI k)), (0, .ref (ad 0)), (1, .ref (ad 198)), (2, .ref (ad 199)), (3, .ref (ad 200)), (4, .ref (ad 201)), (5, .ref (ad 202)), (6, .int (hv))]) hx hb dL_wouldBe_313 hl (k := 0) rfl rfl (by decide) rfl (fun ls hl => ?_)
            refine lv_goto (tgt := 214) hx hb dL_wouldBe_316 (by decide) ?_
            have hl := lv_sub (l' := [(17, .int ((dnI i) + (-1))), (15, .long ((dnS Z n k i).2)), (14, .int ((dnS Z n k i).1)), (13, .int (nI 1)), (9, .int (nI (1 + h2))), (8, .int (nI q)), (7, .int (nI k)), (0, .ref (ad 0)), (1, .ref (ad 198)), (2, .ref (ad 199)), (3, .ref (ad 200)), (4, .ref (ad 201)), (5, .ref (ad 202)), (6, .int (hv))]) hl [0, 1, 2, 3, 4, 5, 6, 7, 8, 9, 10, 11, 12, 13] rfl
            have le17 : Value.int ((dnI i) + (-1)) = Value.int (dnI (i + 1)) := by exact congrArg Value.int (dnI_s hi12)
            have le15 : Value.long ((dnS Z n k i).2) = Value.long ((dnS Z n k (i + 1)).2) := by exact congrArg Value.long (congrArg Prod.snd (dn_1 (tk_yes hn10 (Int32.not_lt.mpr c227) c240))).symm
            have le14 : Value.int ((dnS Z n k i).1) = Value.int ((dnS Z n k (i + 1)).1) := by exact congrArg Value.int (congrArg Prod.fst (dn_1 (tk_yes hn10 (Int32.not_lt.mpr c227) c240))).symm
            have hl := lv_hasE hl (lcons le17 (lcons le15 (lcons le14 (lcons rfl (lcons rfl (lcons rfl (lcons rfl (lcons rfl (lcons rfl (lcons rfl (lcons rfl (lcons rfl (lcons rfl (lcons rfl rfl))))))))))))))
            refine W_wide (k := 4 + 4 * (i + 1)) (n := 107 + 107 * (i + 1)) (by omega) (by omega) ?_
            exact ih214 (i + 1) (by omega) (by omega) _ _ hP hS _ hl
          · refine lv_aload_n hx hb dL_wouldBe_243 rfl (lv_at hl 8 rfl) ?_
            refine lv_aload_n hx hb dL_wouldBe_244 rfl (lv_at hl 9 rfl) ?_
            refine lv_aload_n hx hb dL_wouldBe_245 rfl (lv_at hl 10 rfl) ?_
            refine lv_aload hx hb dL_wouldBe_246 (lv_at hl 11 rfl) ?_
            refine lv_aload hx hb dL_wouldBe_248 (lv_at hl 12 rfl) ?_
            refine lv_iload hx hb dL_wouldBe_250 (lv_at hl 6 rfl) ?_
            refine lv_iload hx hb dL_wouldBe_252 (lv_at hl 0 rfl) ?_
            refine lv_teq (dnI_at hi12) ?_
            refine lv_bipush (v := nI 24) hx hb dL_wouldBe_254 (by decide) ?_
            refine nw_N (N1 := 5) (nm := fun z => 198 + z) (ce1 := lwc ct Z r) (ce1' := lwc ct Z r) (ce' := pcw O3 (lwc ct Z r)) (As := [.ref (ad 198), .ref (ad 199), .ref (ad 200), .ref (ad 201), .ref (ad 202), .int (nI k), .int (nI (11 - i)), .int (nI 24)]) (rest := []) hx hb hml hown htg hK hI hP hS hA hA0 hl.1 p203 pinj pcr pcr (fun _ _ _ => rfl) (mL_goOn l D ct (fun z => ad (198 + z)) _ Z r n k (11 - i) 24 h9 hO ho hg hb9 (by omega) (by omega) (by omega) (by omega)) cw_L_65 rfl rfl ⟨Nat.le_of_ble_eq_true rfl, Nat.le_of_ble_eq_true rfl⟩ (Nat.le_of_ble_eq_true rfl) dL_wouldBe_256 ⟨(show 4 + 4 * i + 4 ≤ 52 by omega), (show 107 + 107 * i + 107 ≤ 1391 by omega)⟩ (fun H locs hP hS => ?_)
            refine lv_ldc2 hx hb hown (htg _ k2_L_58) dL_wouldBe_259 ?_
            refine lv_lrem hx hb dL_wouldBe_262 (by decide) ?_
            refine lv_lstore (lv' := [(18, .long ((goV Z n k (11 - i) 24) - (goV Z n k (11 - i) 24) / 1000000 * 1000000)), (17, .int (dnI i)), (15, .long ((dnS Z n k i).2)), (14, .int ((dnS Z n k i).1)), (13, .int (nI 1)), (9, .int (nI (1 + h2))), (8, .int (nI q)), (7, .int (nI k)), (0, .ref (ad 0)), (1, .ref (ad 198)), (2, .ref (ad 199)), (3, .ref (ad 200)), (4, .ref (ad 201)), (5, .ref (ad 202)), (6, .int (hv))]) hx hb dL_wouldBe_263 hl (by decide) rfl (fun ls hl => ?_)
            refine lv_iload hx hb dL_wouldBe_265 (lv_at hl 3 rfl) ?_
            refine lv_ifltR (tgt := 278) hx hb dL_wouldBe_267 (by decide) (fun c267 => ?_) (fun c267 => ?_)
            · refine lv_iconst (v := nI 1) hx hb dL_wouldBe_278 (by decide) ?_
              refine lv_goto (tgt := 283) hx hb dL_wouldBe_279 (by decide) ?_
              refine lv_istore (lv' := [(20, .int (nI 1)), (18, .long ((goV Z n k (11 - i) 24) - (goV Z n k (11 - i) 24) / 1000000 * 1000000)), (17, .int (dnI i)), (15, .long ((dnS Z n k i).2)), (14, .int ((dnS Z n k i).1)), (13, .int (nI 1)), (9, .int (nI (1 + h2))), (8, .int (nI q)), (7, .int (nI k)), (0, .ref (ad 0)), (1, .ref (ad 198)), (2, .ref (ad 199)), (3, .ref (ad 200)), (4, .ref (ad 201)), (5, .ref (ad 202)), (6, .int (hv))]) hx hb dL_wouldBe_283 hl (by decide) rfl (fun ls hl => ?_)
              refine lv_iload hx hb dL_wouldBe_285 (lv_at hl 0 rfl) ?_
              refine lv_if_eq (tgt := 295) hx hb dL_wouldBe_287 (by decide) (fun h => absurd h (by decide)) (fun _ => ?_)
              refine lv_iload hx hb dL_wouldBe_290 (lv_at hl 2 rfl) ?_
              refine lv_teq (dnI_at hi12) ?_
              refine lv_goto (tgt := 297) hx hb dL_wouldBe_292 (by decide) ?_
              refine lv_istore (lv' := [(14, .int (nI (11 - i))), (20, .int (nI 1)), (18, .long ((goV Z n k (11 - i) 24) - (goV Z n k (11 - i) 24) / 1000000 * 1000000)), (17, .int (dnI i)), (15, .long ((dnS Z n k i).2)), (13, .int (nI 1)), (9, .int (nI (1 + h2))), (8, .int (nI q)), (7, .int (nI k)), (0, .ref (ad 0)), (1, .ref (ad 198)), (2, .ref (ad 199)), (3, .ref (ad 200)), (4, .ref (ad 201)), (5, .ref (ad 202)), (6, .int (hv))]) hx hb dL_wouldBe_297 hl (by decide) rfl (fun ls hl => ?_)
              refine lv_iload hx hb dL_wouldBe_299 (lv_at hl 1 rfl) ?_
              refine lv_if_eq (tgt := 309) hx hb dL_wouldBe_301 (by decide) (fun h => absurd h (by decide)) (fun _ => ?_)
              refine lv_lload hx hb dL_wouldBe_304 (lv_at hl 2 rfl) ?_
              refine lv_goto (tgt := 311) hx hb dL_wouldBe_306 (by decide) ?_
              refine lv_lstore (lv' := [(15, .long ((goV Z n k (11 - i) 24) - (goV Z n k (11 - i) 24) / 1000000 * 1000000)), (14, .int (nI (11 - i))), (20, .int (nI 1)), (18, .long ((goV Z n k (11 - i) 24) - (goV Z n k (11 - i) 24) / 1000000 * 1000000)), (17, .int (dnI i)), (13, .int (nI 1)), (9, .int (nI (1 + h2))), (8, .int (nI q)), (7, .int (nI k)), (0, .ref (ad 0)), (1, .ref (ad 198)), (2, .ref (ad 199)), (3, .ref (ad 200)), (4, .ref (ad 201)), (5, .ref (ad 202)), (6, .int (hv))]) hx hb dL_wouldBe_311 hl (by decide) rfl (fun ls hl => ?_)
              refine lv_iinc (v := (dnI i) + (-1)) (lv' := [(17, .int ((dnI i) + (-1))), (15, .long ((goV Z n k (11 - i) 24) - (goV Z n k (11 - i) 24) / 1000000 * 1000000)), (14, .int (nI (11 - i))), (20, .int (nI 1)), (18, .long ((goV Z n k (11 - i) 24) - (goV Z n k (11 - i) 24) / 1000000 * 1000000)), (13, .int (nI 1)), (9, .int (nI (1 + h2))), (8, .int (nI q)), (7, .int (nI k)), (0, .ref (ad 0)), (1, .ref (ad 198)), (2, .ref (ad 199)), (3, .ref (ad 200)), (4, .ref (ad 201)), (5, .ref (ad 202)), (6, .int (hv))]) hx hb dL_wouldBe_313 hl (k := 4) rfl rfl (by decide) rfl (fun ls hl => ?_)
              refine lv_goto (tgt := 214) hx hb dL_wouldBe_316 (by decide) ?_
              have hl := lv_sub (l' := [(17, .int ((dnI i) + (-1))), (15, .long ((goV Z n k (11 - i) 24) - (goV Z n k (11 - i) 24) / 1000000 * 1000000)), (14, .int (nI (11 - i))), (13, .int (nI 1)), (9, .int (nI (1 + h2))), (8, .int (nI q)), (7, .int (nI k)), (0, .ref (ad 0)), (1, .ref (ad 198)), (2, .ref (ad 199)), (3, .ref (ad 200)), (4, .ref (ad 201)), (5, .ref (ad 202)), (6, .int (hv))]) hl [0, 1, 2, 5, 6, 7, 8, 9, 10, 11, 12, 13, 14, 15] rfl
              have le17 : Value.int ((dnI i) + (-1)) = Value.int (dnI (i + 1)) := by exact congrArg Value.int (dnI_s hi12)
              have le15 : Value.long ((goV Z n k (11 - i) 24) - (goV Z n k (11 - i) 24) / 1000000 * 1000000) = Value.long ((dnS Z n k (i + 1)).2) := by exact congrArg Value.long (congrArg Prod.snd (dn_2 (tk_same c240) (Or.inl c267))).symm
              have le14 : Value.int (nI (11 - i)) = Value.int ((dnS Z n k (i + 1)).1) := by exact congrArg Value.int (congrArg Prod.fst (dn_2 (tk_same c240) (Or.inl c267))).symm
              have hl := lv_hasE hl (lcons le17 (lcons le15 (lcons le14 (lcons rfl (lcons rfl (lcons rfl (lcons rfl (lcons rfl (lcons rfl (lcons rfl (lcons rfl (lcons rfl (lcons rfl (lcons rfl rfl))))))))))))))
              refine W_wide (k := 4 + 4 * (i + 1)) (n := 107 + 107 * (i + 1)) (by omega) (by omega) ?_
              exact ih214 (i + 1) (by omega) (by omega) _ _ hP hS _ hl
            · refine lv_lload hx hb dL_wouldBe_270 (lv_at hl 0 rfl) ?_
              refine lv_lload hx hb dL_wouldBe_272 (lv_at hl 2 rfl) ?_
              refine W.lcmp hx hb dL_wouldBe_274 ?_
              refine lv_ifgtR (tgt := 282) hx hb dL_wouldBe_275 (by decide) (fun c275 => ?_) (fun c275 => ?_)
              · refine lv_iconst (v := nI 0) hx hb dL_wouldBe_282 (by decide) ?_
                refine lv_istore (lv' := [(20, .int (nI 0)), (18, .long ((goV Z n k (11 - i) 24) - (goV Z n k (11 - i) 24) / 1000000 * 1000000)), (17, .int (dnI i)), (15, .long ((dnS Z n k i).2)), (14, .int ((dnS Z n k i).1)), (13, .int (nI 1)), (9, .int (nI (1 + h2))), (8, .int (nI q)), (7, .int (nI k)), (0, .ref (ad 0)), (1, .ref (ad 198)), (2, .ref (ad 199)), (3, .ref (ad 200)), (4, .ref (ad 201)), (5, .ref (ad 202)), (6, .int (hv))]) hx hb dL_wouldBe_283 hl (by decide) rfl (fun ls hl => ?_)
                refine lv_iload hx hb dL_wouldBe_285 (lv_at hl 0 rfl) ?_
                refine lv_if_eq (tgt := 295) hx hb dL_wouldBe_287 (by decide) (fun _ => ?_) (fun h => absurd (by decide) h)
                refine lv_iload hx hb dL_wouldBe_295 (lv_at hl 4 rfl) ?_
                refine lv_istore (lv' := [(14, .int ((dnS Z n k i).1)), (20, .int (nI 0)), (18, .long ((goV Z n k (11 - i) 24) - (goV Z n k (11 - i) 24) / 1000000 * 1000000)), (17, .int (dnI i)), (15, .long ((dnS Z n k i).2)), (13, .int (nI 1)), (9, .int (nI (1 + h2))), (8, .int (nI q)), (7, .int (nI k)), (0, .ref (ad 0)), (1, .ref (ad 198)), (2, .ref (ad 199)), (3, .ref (ad 200)), (4, .ref (ad 201)), (5, .ref (ad 202)), (6, .int (hv))]) hx hb dL_wouldBe_297 hl (by decide) rfl (fun ls hl => ?_)
                refine lv_iload hx hb dL_wouldBe_299 (lv_at hl 1 rfl) ?_
                refine lv_if_eq (tgt := 309) hx hb dL_wouldBe_301 (by decide) (fun _ => ?_) (fun h => absurd (by decide) h)
                refine lv_lload hx hb dL_wouldBe_309 (lv_at hl 4 rfl) ?_
                refine lv_lstore (lv' := [(15, .long ((dnS Z n k i).2)), (14, .int ((dnS Z n k i).1)), (20, .int (nI 0)), (18, .long ((goV Z n k (11 - i) 24) - (goV Z n k (11 - i) 24) / 1000000 * 1000000)), (17, .int (dnI i)), (13, .int (nI 1)), (9, .int (nI (1 + h2))), (8, .int (nI q)), (7, .int (nI k)), (0, .ref (ad 0)), (1, .ref (ad 198)), (2, .ref (ad 199)), (3, .ref (ad 200)), (4, .ref (ad 201)), (5, .ref (ad 202)), (6, .int (hv))]) hx hb dL_wouldBe_311 hl (by decide) rfl (fun ls hl => ?_)
                refine lv_iinc (v := (dnI i) + (-1)) (lv' := [(17, .int ((dnI i) + (-1))), (15, .long ((dnS Z n k i).2)), (14, .int ((dnS Z n k i).1)), (20, .int (nI 0)), (18, .long ((goV Z n k (11 - i) 24) - (goV Z n k (11 - i) 24) / 1000000 * 1000000)), (13, .int (nI 1)), (9, .int (nI (1 + h2))), (8, .int (nI q)), (7, .int (nI k)), (0, .ref (ad 0)), (1, .ref (ad 198)), (2, .ref (ad 199)), (3, .ref (ad 200)), (4, .ref (ad 201)), (5, .ref (ad 202)), (6, .int (hv))]) hx hb dL_wouldBe_313 hl (k := 4) rfl rfl (by decide) rfl (fun ls hl => ?_)
                refine lv_goto (tgt := 214) hx hb dL_wouldBe_316 (by decide) ?_
                have hl := lv_sub (l' := [(17, .int ((dnI i) + (-1))), (15, .long ((dnS Z n k i).2)), (14, .int ((dnS Z n k i).1)), (13, .int (nI 1)), (9, .int (nI (1 + h2))), (8, .int (nI q)), (7, .int (nI k)), (0, .ref (ad 0)), (1, .ref (ad 198)), (2, .ref (ad 199)), (3, .ref (ad 200)), (4, .ref (ad 201)), (5, .ref (ad 202)), (6, .int (hv))]) hl [0, 1, 2, 5, 6, 7, 8, 9, 10, 11, 12, 13, 14, 15] rfl
                have le17 : Value.int ((dnI i) + (-1)) = Value.int (dnI (i + 1)) := by exact congrArg Value.int (dnI_s hi12)
                have le15 : Value.long ((dnS Z n k i).2) = Value.long ((dnS Z n k (i + 1)).2) := by exact congrArg Value.long (congrArg Prod.snd (dn_3 (tk_same c240) (Int32.not_lt.mpr c267) ((lg_cmp_gt _ _).mp c275))).symm
                have le14 : Value.int ((dnS Z n k i).1) = Value.int ((dnS Z n k (i + 1)).1) := by exact congrArg Value.int (congrArg Prod.fst (dn_3 (tk_same c240) (Int32.not_lt.mpr c267) ((lg_cmp_gt _ _).mp c275))).symm
                have hl := lv_hasE hl (lcons le17 (lcons le15 (lcons le14 (lcons rfl (lcons rfl (lcons rfl (lcons rfl (lcons rfl (lcons rfl (lcons rfl (lcons rfl (lcons rfl (lcons rfl (lcons rfl rfl))))))))))))))
                refine W_wide (k := 4 + 4 * (i + 1)) (n := 107 + 107 * (i + 1)) (by omega) (by omega) ?_
                exact ih214 (i + 1) (by omega) (by omega) _ _ hP hS _ hl
              · refine lv_iconst (v := nI 1) hx hb dL_wouldBe_278 (by decide) ?_
                refine lv_goto (tgt := 283) hx hb dL_wouldBe_279 (by decide) ?_
                refine lv_istore (lv' := [(20, .int (nI 1)), (18, .long ((goV Z n k (11 - i) 24) - (goV Z n k (11 - i) 24) / 1000000 * 1000000)), (17, .int (dnI i)), (15, .long ((dnS Z n k i).2)), (14, .int ((dnS Z n k i).1)), (13, .int (nI 1)), (9, .int (nI (1 + h2))), (8, .int (nI q)), (7, .int (nI k)), (0, .ref (ad 0)), (1, .ref (ad 198)), (2, .ref (ad 199)), (3, .ref (ad 200)), (4, .ref (ad 201)), (5, .ref (ad 202)), (6, .int (hv))]) hx hb dL_wouldBe_283 hl (by decide) rfl (fun ls hl => ?_)
                refine lv_iload hx hb dL_wouldBe_285 (lv_at hl 0 rfl) ?_
                refine lv_if_eq (tgt := 295) hx hb dL_wouldBe_287 (by decide) (fun h => absurd h (by decide)) (fun _ => ?_)
                refine lv_iload hx hb dL_wouldBe_290 (lv_at hl 2 rfl) ?_
                refine lv_teq (dnI_at hi12) ?_
                refine lv_goto (tgt := 297) hx hb dL_wouldBe_292 (by decide) ?_
                refine lv_istore (lv' := [(14, .int (nI (11 - i))), (20, .int (nI 1)), (18, .long ((goV Z n k (11 - i) 24) - (goV Z n k (11 - i) 24) / 1000000 * 1000000)), (17, .int (dnI i)), (15, .long ((dnS Z n k i).2)), (13, .int (nI 1)), (9, .int (nI (1 + h2))), (8, .int (nI q)), (7, .int (nI k)), (0, .ref (ad 0)), (1, .ref (ad 198)), (2, .ref (ad 199)), (3, .ref (ad 200)), (4, .ref (ad 201)), (5, .ref (ad 202)), (6, .int (hv))]) hx hb dL_wouldBe_297 hl (by decide) rfl (fun ls hl => ?_)
                refine lv_iload hx hb dL_wouldBe_299 (lv_at hl 1 rfl) ?_
                refine lv_if_eq (tgt := 309) hx hb dL_wouldBe_301 (by decide) (fun h => absurd h (by decide)) (fun _ => ?_)
                refine lv_lload hx hb dL_wouldBe_304 (lv_at hl 2 rfl) ?_
                refine lv_goto (tgt := 311) hx hb dL_wouldBe_306 (by decide) ?_
                refine lv_lstore (lv' := [(15, .long ((goV Z n k (11 - i) 24) - (goV Z n k (11 - i) 24) / 1000000 * 1000000)), (14, .int (nI (11 - i))), (20, .int (nI 1)), (18, .long ((goV Z n k (11 - i) 24) - (goV Z n k (11 - i) 24) / 1000000 * 1000000)), (17, .int (dnI i)), (13, .int (nI 1)), (9, .int (nI (1 + h2))), (8, .int (nI q)), (7, .int (nI k)), (0, .ref (ad 0)), (1, .ref (ad 198)), (2, .ref (ad 199)), (3, .ref (ad 200)), (4, .ref (ad 201)), (5, .ref (ad 202)), (6, .int (hv))]) hx hb dL_wouldBe_311 hl (by decide) rfl (fun ls hl => ?_)
                refine lv_iinc (v := (dnI i) + (-1)) (lv' := [(17, .int ((dnI i) + (-1))), (15, .long ((goV Z n k (11 - i) 24) - (goV Z n k (11 - i) 24) / 1000000 * 1000000)), (14, .int (nI (11 - i))), (20, .int (nI 1)), (18, .long ((goV Z n k (11 - i) 24) - (goV Z n k (11 - i) 24) / 1000000 * 1000000)), (13, .int (nI 1)), (9, .int (nI (1 + h2))), (8, .int (nI q)), (7, .int (nI k)), (0, .ref (ad 0)), (1, .ref (ad 198)), (2, .ref (ad 199)), (3, .ref (ad 200)), (4, .ref (ad 201)), (5, .ref (ad 202)), (6, .int (hv))]) hx hb dL_wouldBe_313 hl (k := 4) rfl rfl (by decide) rfl (fun ls hl => ?_)
                refine lv_goto (tgt := 214) hx hb dL_wouldBe_316 (by decide) ?_
                have hl := lv_sub (l' := [(17, .int ((dnI i) + (-1))), (15, .long ((goV Z n k (11 - i) 24) - (goV Z n k (11 - i) 24) / 1000000 * 1000000)), (14, .int (nI (11 - i))), (13, .int (nI 1)), (9, .int (nI (1 + h2))), (8, .int (nI q)), (7, .int (nI k)), (0, .ref (ad 0)), (1, .ref (ad 198)), (2, .ref (ad 199)), (3, .ref (ad 200)), (4, .ref (ad 201)), (5, .ref (ad 202)), (6, .int (hv))]) hl [0, 1, 2, 5, 6, 7, 8, 9, 10, 11, 12, 13, 14, 15] rfl
                have le17 : Value.int ((dnI i) + (-1)) = Value.int (dnI (i + 1)) := by exact congrArg Value.int (dnI_s hi12)
                have le15 : Value.long ((goV Z n k (11 - i) 24) - (goV Z n k (11 - i) 24) / 1000000 * 1000000) = Value.long ((dnS Z n k (i + 1)).2) := by exact congrArg Value.long (congrArg Prod.snd (dn_2 (tk_same c240) (Or.inr ((lg_cmp_le _ _).mp c275)))).symm
                have le14 : Value.int (nI (11 - i)) = Value.int ((dnS Z n k (i + 1)).1) := by exact congrArg Value.int (congrArg Prod.fst (dn_2 (tk_same c240) (Or.inr ((lg_cmp_le _ _).mp c275)))).symm
                have hl := lv_hasE hl (lcons le17 (lcons le15 (lcons le14 (lcons rfl (lcons rfl (lcons rfl (lcons rfl (lcons rfl (lcons rfl (lcons rfl (lcons rfl (lcons rfl (lcons rfl (lcons rfl rfl))))))))))))))
                refine W_wide (k := 4 + 4 * (i + 1)) (n := 107 + 107 * (i + 1)) (by omega) (by omega) ?_
                exact ih214 (i + 1) (by omega) (by omega) _ _ hP hS _ hl
  have hl := lv_sub (l' := [(17, .int (nI 11)), (15, .long (0)), (14, .int (-1)), (13, .int (nI 1)), (9, .int (nI (1 + h2))), (8, .int (nI q)), (7, .int (nI k)), (0, .ref (ad 0)), (1, .ref (ad 198)), (2, .ref (ad 199)), (3, .ref (ad 200)), (4, .ref (ad 201)), (5, .ref (ad 202)), (6, .int (hv))]) hl [0, 1, 2, 3, 4, 5, 6, 7, 8, 9, 10, 11, 12, 13] rfl
  have le17 : Value.int (nI 11) = Value.int (dnI 0) := by rfl
  have le15 : Value.long (0) = Value.long ((dnS Z n k 0).2) := by rfl
  have le14 : Value.int (-1) = Value.int ((dnS Z n k 0).1) := by rfl
  have hl := lv_hasE hl (lcons le17 (lcons le15 (lcons le14 (lcons rfl (lcons rfl (lcons rfl (lcons rfl (lcons rfl (lcons rfl (lcons rfl (lcons rfl (lcons rfl (lcons rfl (lcons rfl rfl))))))))))))))
  exact lp214 (12 - 0 + 1) 0 (by omega) (Nat.lt_succ_self _) _ _ hP hS _ hl
