/-! THE LAW: its cases -/
theorem pho {O : Nat → va_E} {L L' : Nat → va_E} : ∀ i, i < 203 → (∀ z, z < 5 → i ≠ (fun z => 198 + z) z) → pcw O L' i = pcw O L i := fun i hi ho => by
  by_cases c : i < 198
  · rw [pcl i c, pcl i c]
  · exact absurd (show i = 198 + (i - 198) by omega) (ho (i - 198) (by omega))
theorem inB_v9 {v lo hi : Nat} (h1 : lo ≤ v) (h2 : v ≤ hi) (h3 : hi < 2147483648) : inB (nI v) (nI lo) (nI hi) = true := by
  unfold inB; rw [decide_eq_true ((nI_leI (by omega) (by omega)).mpr h1), decide_eq_true ((nI_leI (by omega) (by omega)).mpr h2)]; rfl
theorem LJ_pon {ct : Nat → ClassId} {ad : Nat → Nat} {O O' : Nat → va_E} {Z : Nat → Int32} {r : Int32} {n e b : Nat} (h : LJ ct ad O Z r n e) (hn : 2 ≤ n) (hb : b < 4) (hO : OS ct ad O' (pon Z b) n) (hr : rI (pon Z b) n) (hg : lG r (pon Z b) n) : LJ ct ad O' (pon Z b) r n (e + 1) := by
  obtain ⟨-, -, -, h4, hs, ⟨t, t1, t2⟩, -⟩ := h
  have e1 : ∀ z, z ≠ 7 + 5 * b + 1 → z ≠ 7 + 5 * b + 2 → pon Z b z = Z z := fun z h1 h2 => by unfold pon; rw [upd_n h2, upd_n h1]
  refine ⟨hO, hr, hg, fun k hk1 hk2 => ?_, ?_, ⟨t, by omega, by rw [e1 3 (by omega) (by omega)]; exact t2⟩, Or.inl hn⟩
  · rw [e1 _ (by omega) (by omega), e1 _ (by omega) (by omega), e1 _ (by omega) (by omega)]; exact h4 k hk1 hk2
  · rw [sumS_congr (by omega) n (fun k hk1 => e1 _ (by omega) (by omega)), sumB_congr 4 (fun c hc => e1 _ (by omega) (by omega))]; exact hs
theorem LJ_pass {ct : Nat → ClassId} {ad : Nat → Nat} {O O' : Nat → va_E} {Z : Nat → Int32} {r : Int32} {n e tm : Nat} (h : LJ ct ad O Z r n e) (hn : 2 ≤ n) (he : e < 52) (ht : tm ≤ 48) (hO : OS ct ad O' (hsZ Z n tm) n) (hr : rI (hsZ Z n tm) n) (hg : lG r (hsZ Z n tm) n) : LJ ct ad O' (hsZ Z n tm) r n (e + 1) := by
  obtain ⟨-, hri, hg0, h4, hs, ⟨t, t1, t2⟩, -⟩ := h
  obtain ⟨h9, hh9, hb9⟩ := hri.2.2.2
  have e3 : hsZ Z n tm 3 = nI (h9 + tm) := (hs_bN hri.1 hri.2.1 hb9 tm).1
  have et : h9 = t := nI_j (by omega) (by omega) (hb9.1.symm.trans t2)
  refine ⟨hO, hr, hg, fun k hk1 hk2 => ?_, hs_mt hg0.1 hs tm, ⟨t + tm, by omega, by rw [e3, et]⟩, Or.inl hn⟩
  rw [hs_out (by omega) hg0.1, hs_out (by omega) hg0.1, hs_out (by omega) hg0.1]; exact h4 k hk1 hk2
set_option maxRecDepth 100000 in
set_option maxHeartbeats 8000000 in
theorem lc_plug {p : Program} {l : Launch} {e : Env} {s : State} {m : MethodId} {below : List Frame} {meth : Method} {c : Code} {Q : State → Prop} {D : va_G} {ct : Nat → ClassId} {ad : Nat → Nat} {b : Nat} (hx : p.tables.exec = Jvm.exec) (hb : c.code = code) (hml : c.maxLocals = 16) (hown : s.vm.findClass RL = some m.cls) (htg : ∀ w ∈ wB, w.before #[Value.ref b] s = true) (hK : va_K D vwCl (fTys ct) s) (hI : fI 203 ad) (hA0 : ∀ i, i < 203 → lA s (ad i)) (hE : gE (lA s) s s.heap) {O : Nat → va_E} {Z : Nat → Int32} {r hv : Int32} {n e9 i9 k9 kd : Nat} (hJ : LJ ct ad O Z r n e9) (he9 : e9 < 52) (hkn : k9 < n) (hn22 : 2 ≤ n) (c0 s0 : Nat) (hc0 : c0 ≤ 600104) (hs0 : s0 ≤ 7301314) (kk : ∀ (O' : Nat → va_E) (Z' : Nat → Int32) (r' : Int32) (n' : Nat) (H : Heap) (locs : List Loc) (ls : Array Slot), LJ ct ad O' Z' r' n' (e9 + 1) → fP D 203 ad (pcw O' (lwc ct Z' r')) H → va_S (lA s) s.heap H locs → lv_has ls 16 [(12, .int (nI 1)), (8, .int (hv)), (7, .int (nI e9)), (6, .ref (ad 202)), (5, .ref (ad 201)), (4, .ref (ad 200)), (3, .ref (ad 199)), (2, .ref (ad 198)), (1, .ref (ad 0)), (0, .ref b)] → W p l e room_1 s m #[Value.ref b] below meth c H locs c0 s0 Q (F0 m 1023 ls [])) {H : Heap} {locs : List Loc} {ls : Array Slot} (hP : fP D 203 ad (pcw O (lwc ct Z r)) H) (hS : va_S (lA s) s.heap H locs) (hl : lv_has ls 16 [(12, .int (nI 1)), (11, .int (nI i9)), (10, .int (nI k9)), (9, .int (nI kd)), (8, .int (hv)), (7, .int (nI e9)), (6, .ref (ad 202)), (5, .ref (ad 201)), (4, .ref (ad 200)), (3, .ref (ad 199)), (2, .ref (ad 198)), (1, .ref (ad 0)), (0, .ref b)]) : W p l e room_1 s m #[Value.ref b] below meth c H locs c0 s0 Q (F0 m 348 ls []) := by
  have hJ0 := hJ
  obtain ⟨hOS, hri, hg, htl, hmt, ⟨t3, ht3, hz3⟩, hn2⟩ := hJ0
  have hn10 := hg.1.1
  have hO := hri.1
  have ho := hri.2.1
  obtain ⟨m9, hm9⟩ : ∃ z9, (if loN (hv >>> (nI 25 &&& 31)) 2 = 0 then 12 else 4) = z9 := ⟨_, rfl⟩
  have hm9v : m9 = 12 ∨ m9 = 4 := by rw [← hm9]; split; exact Or.inl rfl; exact Or.inr rfl
  obtain ⟨q, eq9⟩ : ∃ z9, loN (hv >>> (nI 11 &&& 31)) m9 = z9 := ⟨_, rfl⟩
  have hq : q < 12 := by have := loN_lt (v := hv >>> (nI 11 &&& 31)) (n := m9) (by omega); omega
  refine lv_iload hx hb dL_law_348 (lv_at hl 4 rfl) ?_
  refine lv_bipush (v := nI 11) hx hb dL_law_350 (by decide) ?_
  refine lv_ishr hx hb dL_law_352 ?_
  refine lv_iload hx hb dL_law_353 (lv_at hl 4 rfl) ?_
  refine lv_bipush (v := nI 25) hx hb dL_law_355 (by decide) ?_
  refine lv_ishr hx hb dL_law_357 ?_
  refine lv_iconst (v := nI 2) hx hb dL_law_358 (by decide) ?_
  refine nw_Sr (N1 := 5) (nm := (fun z => 198 + z)) (ce1 := lwc ct Z r) (ce1' := lwc ct Z r) (ce' := pcw O (lwc ct Z r)) (As := [.int (hv >>> ((nI 25) &&& 31)), .int (nI 2)]) (rest := [.int (hv >>> ((nI 11) &&& 31))]) hx hb hml hown htg hK hI hP hS hA0 hl.1 p203 pinj pcr pcr (fun _ _ _ => rfl) (mL_low l D ct (fun z => ad ((fun z => 198 + z) z)) Z r (hv >>> ((nI 25) &&& 31)) 2 (by omega) (by omega)) cw_L_62 rfl rfl ⟨Nat.le_of_ble_eq_true rfl, Nat.le_of_ble_eq_true rfl⟩ (Nat.le_of_ble_eq_true rfl) dL_law_359 ⟨(show c0 ≤ 600104 by omega), (show s0 ≤ 7301314 by omega)⟩ (fun H locs hP hS => ?_)
  have hlo := @loN_lt (hv >>> ((nI 25) &&& 31)) 2 (by omega)
  suffices hJ371 : W p l e room_1 s m #[Value.ref b] below meth c H locs (c0) (s0) Q (F0 m 371 ls [.int (nI m9), .int (hv >>> ((nI 11) &&& 31))]) by
    refine lv_ifneN (tgt := 370) hx hb (by omega) dL_law_362 (by decide) (fun c362 => ?_) (fun c362 => ?_)
    · refine lv_iconst (v := nI 4) hx hb dL_law_370 (by decide) ?_
      exact lv_tveq (show Value.int (nI 4) = Value.int (nI m9) from by exact congrArg Value.int (congrArg nI ((if_neg c362).symm.trans hm9))) hJ371
    · refine lv_bipush (v := nI 12) hx hb dL_law_365 (by decide) ?_
      refine lv_goto (tgt := 371) hx hb dL_law_367 (by decide) ?_
      exact lv_tveq (show Value.int (nI 12) = Value.int (nI m9) from by exact congrArg Value.int (congrArg nI ((if_pos c362).symm.trans hm9))) hJ371
  refine nw_Sr (N1 := 5) (nm := (fun z => 198 + z)) (ce1 := lwc ct Z r) (ce1' := lwc ct Z r) (ce' := pcw O (lwc ct Z r)) (As := [.int (hv >>> ((nI 11) &&& 31)), .int (nI m9)]) (rest := []) hx hb hml hown htg hK hI hP hS hA0 hl.1 p203 pinj pcr pcr (fun _ _ _ => rfl) (mL_low l D ct (fun z => ad ((fun z => 198 + z) z)) Z r (hv >>> ((nI 11) &&& 31)) m9 (by omega) (by omega)) cw_L_62 rfl rfl ⟨Nat.le_of_ble_eq_true rfl, Nat.le_of_ble_eq_true rfl⟩ (Nat.le_of_ble_eq_true rfl) dL_law_371 ⟨(show c0 ≤ 600104 by omega), (show s0 ≤ 7301314 by omega)⟩ (fun H locs hP hS => ?_)
  have hlo := @loN_lt (hv >>> ((nI 11) &&& 31)) m9 (by omega)
  rw [eq9]
  refine lv_istore (lv' := [(13, .int (nI q)), (12, .int (nI 1)), (11, .int (nI i9)), (10, .int (nI k9)), (9, .int (nI kd)), (8, .int (hv)), (7, .int (nI e9)), (6, .ref (ad 202)), (5, .ref (ad 201)), (4, .ref (ad 200)), (3, .ref (ad 199)), (2, .ref (ad 198)), (1, .ref (ad 0)), (0, .ref b)]) hx hb dL_law_374 hl (by decide) rfl (fun ls hl => ?_)
  refine lv_aload_n hx hb dL_law_376 rfl (lv_at hl 11 rfl) ?_
  refine lv_aload hx hb dL_law_377 (lv_at hl 7 rfl) ?_
  refine lv_iload hx hb dL_law_379 (lv_at hl 0 rfl) ?_
  refine nw_Sr (N1 := 5) (nm := (fun z => 198 + z)) (ce1 := lwc ct Z r) (ce1' := lwc ct Z r) (ce' := pcw O (lwc ct Z r)) (As := [.ref (ad 198), .ref (ad 202), .int (nI q)]) (rest := []) hx hb hml hown htg hK hI hP hS hA0 hl.1 p203 pinj pcr pcr (fun _ _ _ => rfl) (mL_at l D ct (fun z => ad ((fun z => 198 + z) z)) Z r (nI q) n hg) cw_L_38 rfl rfl ⟨Nat.le_of_ble_eq_true rfl, Nat.le_of_ble_eq_true rfl⟩ (Nat.le_of_ble_eq_true rfl) dL_law_381 ⟨(show c0 ≤ 600104 by omega), (show s0 ≤ 7301314 by omega)⟩ (fun H locs hP hS => ?_)
  refine lv_ifgeR (tgt := 441) hx hb dL_law_384 (by decide) (fun c384 => ?_) (fun c384 => ?_)
  · refine lv_goto (tgt := 1023) hx hb dL_law_441 (by decide) ?_
    have hl := lv_sub (l' := [(12, .int (nI 1)), (8, .int (hv)), (7, .int (nI e9)), (6, .ref (ad 202)), (5, .ref (ad 201)), (4, .ref (ad 200)), (3, .ref (ad 199)), (2, .ref (ad 198)), (1, .ref (ad 0)), (0, .ref b)]) hl [1, 5, 6, 7, 8, 9, 10, 11, 12, 13] rfl
    exact kk _ _ _ _ _ _ _ (LJ_same hJ hn22 hOS) hP hS hl
  · have hf := (ox_neg (sat_le hn10)).mp c384
    obtain ⟨O1, hM1, hOS1⟩ := os_plug (l := l) (D := D) hOS hri hkn hq hf
    obtain ⟨fs0, h0⟩ := hOS.h5
    refine lv_aload_n hx hb dL_law_387 rfl (lv_at hl 12 rfl) ?_
    refine lv_iload hx hb dL_law_388 (lv_at hl 3 rfl) ?_
    refine lv_iload hx hb dL_law_390 (lv_at hl 0 rfl) ?_
    refine nw_Or (ceO := O) (ceO' := O1) (ce' := pcw O1 (lwc ct Z r)) (As := [.int (nI k9), .int (nI q)]) (rest := []) hx hb hml hown htg hK hI hP hS hA0 hl.1 (by decide) pcl pcl pch hM1 cw_L_91 h0 rfl rfl ⟨Nat.le_of_ble_eq_true rfl, Nat.le_of_ble_eq_true rfl⟩ (Nat.le_of_ble_eq_true rfl) dL_law_392 ⟨(show c0 ≤ 600104 by omega), (show s0 ≤ 7301314 by omega)⟩ (fun H locs hP hS => ?_)
    refine lv_aload_n hx hb dL_law_395 rfl (lv_at hl 11 rfl) ?_
    refine lv_bipush (v := nI 6) hx hb dL_law_396 (by decide) ?_
    refine lv_iload hx hb dL_law_398 (lv_at hl 3 rfl) ?_
    refine lv_imulN hx hb dL_law_400 ?_
    refine lv_iconst (v := nI 4) hx hb dL_law_401 (by decide) ?_
    refine lv_iaddN hx hb dL_law_402 ?_
    refine fr_iald (k := 198) (f := vwA Z) hx hb hK hP (by decide) rfl (by omega) (by decide) dL_law_403 ?_
    refine lv_teq (vwA_at (by omega) (by omega)) ?_
    suffices hJ420 : W p l e room_1 s m #[Value.ref b] below meth c H locs (c0) (s0) Q (F0 m 420 ls [.int (Z (39 + 8 * k9 + 4)), .int (Z (39 + 8 * k9 + 4))]) by
      refine lv_ifgeR (tgt := 411) hx hb dL_law_404 (by decide) (fun c404 => ?_) (fun c404 => ?_)
      · refine lv_aload_n hx hb dL_law_411 rfl (lv_at hl 11 rfl) ?_
        refine lv_bipush (v := nI 6) hx hb dL_law_412 (by decide) ?_
        refine lv_iload hx hb dL_law_414 (lv_at hl 3 rfl) ?_
        refine lv_imulN hx hb dL_law_416 ?_
        refine lv_iconst (v := nI 4) hx hb dL_law_417 (by decide) ?_
        refine lv_iaddN hx hb dL_law_418 ?_
        refine fr_iald (k := 198) (f := vwA Z) hx hb hK hP (by decide) rfl (by omega) (by decide) dL_law_419 ?_
        refine lv_teq (vwA_at (by omega) (by omega)) ?_
        exact hJ420
      · refine lv_iconst (v := -1) hx hb dL_law_407 (by decide) ?_
        refine lv_goto (tgt := 420) hx hb dL_law_408 (by decide) ?_
        exact lv_tveq (show Value.int (-1) = Value.int (Z (39 + 8 * k9 + 4)) from by exact congrArg Value.int ((sk_neg hg.1 hkn).mp c404).symm) hJ420
    refine lv_icmp_ne (tgt := 427) hx hb dL_law_420 (by decide) (fun h => absurd rfl h) (fun _ => ?_)
    refine lv_iconst (v := nI 1) hx hb dL_law_423 (by decide) ?_
    refine lv_goto (tgt := 428) hx hb dL_law_424 (by decide) ?_
    refine lv_istore (lv' := [(12, .int (nI 1)), (13, .int (nI q)), (11, .int (nI i9)), (10, .int (nI k9)), (9, .int (nI kd)), (8, .int (hv)), (7, .int (nI e9)), (6, .ref (ad 202)), (5, .ref (ad 201)), (4, .ref (ad 200)), (3, .ref (ad 199)), (2, .ref (ad 198)), (1, .ref (ad 0)), (0, .ref b)]) hx hb dL_law_428 hl (by decide) rfl (fun ls hl => ?_)
    refine lv_aload_n hx hb dL_law_430 rfl (lv_at hl 11 rfl) ?_
    refine lv_bipush (v := nI 6) hx hb dL_law_431 (by decide) ?_
    refine lv_iload hx hb dL_law_433 (lv_at hl 3 rfl) ?_
    refine lv_imulN hx hb dL_law_435 ?_
    refine lv_iconst (v := nI 4) hx hb dL_law_436 (by decide) ?_
    refine lv_iaddN hx hb dL_law_437 ?_
    refine lv_iload hx hb dL_law_438 (lv_at hl 1 rfl) ?_
    refine fr_iast (k := 198) (f := vwA Z) hx hb hK hI hP hS hA0 (by decide) rfl (by omega) (by decide) dL_law_440 (pcw5_he (by decide) (lhA (by omega) (by omega))) (fun H locs hP hS => ?_)
    refine lv_goto (tgt := 1023) hx hb dL_law_441 (by decide) ?_
    have hl := lv_sub (l' := [(12, .int (nI 1)), (8, .int (hv)), (7, .int (nI e9)), (6, .ref (ad 202)), (5, .ref (ad 201)), (4, .ref (ad 200)), (3, .ref (ad 199)), (2, .ref (ad 198)), (1, .ref (ad 0)), (0, .ref b)]) hl [0, 5, 6, 7, 8, 9, 10, 11, 12, 13] rfl
    exact kk _ _ _ _ _ _ _ (LJ_upd hJ hn22 hOS1 (rI_plug hri hkn hq (sat_free hn10 hf)) (lG_sock hg (Or.inr ⟨q, hq, rfl⟩)) (by omega) (fun _ => ⟨by omega, by omega⟩) (fun _ _ => by omega) (fun _ _ => by omega)) hP hS hl
set_option maxRecDepth 100000 in
set_option maxHeartbeats 8000000 in
theorem lc_pull {p : Program} {l : Launch} {e : Env} {s : State} {m : MethodId} {below : List Frame} {meth : Method} {c : Code} {Q : State → Prop} {D : va_G} {ct : Nat → ClassId} {ad : Nat → Nat} {b : Nat} (hx : p.tables.exec = Jvm.exec) (hb : c.code = code) (hml : c.maxLocals = 16) (hown : s.vm.findClass RL = some m.cls) (htg : ∀ w ∈ wB, w.before #[Value.ref b] s = true) (hK : va_K D vwCl (fTys ct) s) (hI : fI 203 ad) (hA0 : ∀ i, i < 203 → lA s (ad i)) (hE : gE (lA s) s s.heap) {O : Nat → va_E} {Z : Nat → Int32} {r hv : Int32} {n e9 i9 k9 kd : Nat} (hJ : LJ ct ad O Z r n e9) (he9 : e9 < 52) (hkn : k9 < n) (hn22 : 2 ≤ n) (hs4 : ¬ Z (39 + 8 * k9 + 4) = -1) (c0 s0 : Nat) (hc0 : c0 ≤ 600104) (hs0 : s0 ≤ 7301314) (kk : ∀ (O' : Nat → va_E) (Z' : Nat → Int32) (r' : Int32) (n' : Nat) (H : Heap) (locs : List Loc) (ls : Array Slot), LJ ct ad O' Z' r' n' (e9 + 1) → fP D 203 ad (pcw O' (lwc ct Z' r')) H → va_S (lA s) s.heap H locs → lv_has ls 16 [(12, .int (nI 1)), (8, .int (hv)), (7, .int (nI e9)), (6, .ref (ad 202)), (5, .ref (ad 201)), (4, .ref (ad 200)), (3, .ref (ad 199)), (2, .ref (ad 198)), (1, .ref (ad 0)), (0, .ref b)] → W p l e room_1 s m #[Value.ref b] below meth c H locs c0 s0 Q (F0 m 1023 ls [])) {H : Heap} {locs : List Loc} {ls : Array Slot} (hP : fP D 203 ad (pcw O (lwc ct Z r)) H) (hS : va_S (lA s) s.heap H locs) (hl : lv_has ls 16 [(12, .int (nI 1)), (11, .int (nI i9)), (10, .int (nI k9)), (9, .int (nI kd)), (8, .int (hv)), (7, .int (nI e9)), (6, .ref (ad 202)), (5, .ref (ad 201)), (4, .ref (ad 200)), (3, .ref (ad 199)), (2, .ref (ad 198)), (1, .ref (ad 0)), (0, .ref b)]) : W p l e room_1 s m #[Value.ref b] below meth c H locs c0 s0 Q (F0 m 475 ls []) := by
  have hJ0 := hJ
  obtain ⟨hOS, hri, hg, htl, hmt, ⟨t3, ht3, hz3⟩, hn2⟩ := hJ0
  have hn10 := hg.1.1
  have hO := hri.1
  have ho := hri.2.1
  obtain ⟨O1, hM1, hOS1⟩ := os_pull (l := l) (D := D) hOS hri hkn hs4
  obtain ⟨fs0, h0⟩ := hOS.h5
  refine lv_aload_n hx hb dL_law_475 rfl (lv_at hl 11 rfl) ?_
  refine lv_iload hx hb dL_law_476 (lv_at hl 2 rfl) ?_
  refine nw_Or (ceO := O) (ceO' := O1) (ce' := pcw O1 (lwc ct Z r)) (As := [.int (nI k9)]) (rest := []) hx hb hml hown htg hK hI hP hS hA0 hl.1 (by decide) pcl pcl pch hM1 cw_L_94 h0 rfl rfl ⟨Nat.le_of_ble_eq_true rfl, Nat.le_of_ble_eq_true rfl⟩ (Nat.le_of_ble_eq_true rfl) dL_law_478 ⟨(show c0 ≤ 600104 by omega), (show s0 ≤ 7301314 by omega)⟩ (fun H locs hP hS => ?_)
  refine lv_aload_n hx hb dL_law_481 rfl (lv_at hl 10 rfl) ?_
  refine lv_bipush (v := nI 6) hx hb dL_law_482 (by decide) ?_
  refine lv_iload hx hb dL_law_484 (lv_at hl 2 rfl) ?_
  refine lv_imulN hx hb dL_law_486 ?_
  refine lv_iconst (v := nI 4) hx hb dL_law_487 (by decide) ?_
  refine lv_iaddN hx hb dL_law_488 ?_
  refine fr_iald (k := 198) (f := vwA Z) hx hb hK hP (by decide) rfl (by omega) (by decide) dL_law_489 ?_
  refine lv_teq (vwA_at (by omega) (by omega)) ?_
  refine lv_icmp_ne (tgt := 497) hx hb dL_law_490 (by decide) (fun h => absurd rfl h) (fun _ => ?_)
  refine lv_iconst (v := nI 1) hx hb dL_law_493 (by decide) ?_
  refine lv_goto (tgt := 498) hx hb dL_law_494 (by decide) ?_
  refine lv_istore (lv' := [(12, .int (nI 1)), (11, .int (nI i9)), (10, .int (nI k9)), (9, .int (nI kd)), (8, .int (hv)), (7, .int (nI e9)), (6, .ref (ad 202)), (5, .ref (ad 201)), (4, .ref (ad 200)), (3, .ref (ad 199)), (2, .ref (ad 198)), (1, .ref (ad 0)), (0, .ref b)]) hx hb dL_law_498 hl (by decide) rfl (fun ls hl => ?_)
  refine lv_aload_n hx hb dL_law_500 rfl (lv_at hl 10 rfl) ?_
  refine lv_bipush (v := nI 6) hx hb dL_law_501 (by decide) ?_
  refine lv_iload hx hb dL_law_503 (lv_at hl 2 rfl) ?_
  refine lv_imulN hx hb dL_law_505 ?_
  refine lv_iconst (v := nI 4) hx hb dL_law_506 (by decide) ?_
  refine lv_iaddN hx hb dL_law_507 ?_
  refine lv_iconst (v := -1) hx hb dL_law_508 (by decide) ?_
  refine fr_iast (k := 198) (f := vwA Z) hx hb hK hI hP hS hA0 (by decide) rfl (by omega) (by decide) dL_law_509 (pcw5_he (by decide) (lhA (by omega) (by omega))) (fun H locs hP hS => ?_)
  refine lv_goto (tgt := 1023) hx hb dL_law_510 (by decide) ?_
  have hl := lv_sub (l' := [(12, .int (nI 1)), (8, .int (hv)), (7, .int (nI e9)), (6, .ref (ad 202)), (5, .ref (ad 201)), (4, .ref (ad 200)), (3, .ref (ad 199)), (2, .ref (ad 198)), (1, .ref (ad 0)), (0, .ref b)]) hl [0, 4, 5, 6, 7, 8, 9, 10, 11, 12] rfl
  exact kk _ _ _ _ _ _ _ (LJ_upd hJ hn22 hOS1 (rI_pull hri hkn) (lG_sock hg (Or.inl rfl)) (by omega) (fun _ => ⟨by omega, by omega⟩) (fun _ _ => by omega) (fun _ _ => by omega)) hP hS hl
set_option maxRecDepth 100000 in
set_option maxHeartbeats 8000000 in
theorem lc_shed {p : Program} {l : Launch} {e : Env} {s : State} {m : MethodId} {below : List Frame} {meth : Method} {c : Code} {Q : State → Prop} {D : va_G} {ct : Nat → ClassId} {ad : Nat → Nat} {b : Nat} (hx : p.tables.exec = Jvm.exec) (hb : c.code = code) (hml : c.maxLocals = 16) (hown : s.vm.findClass RL = some m.cls) (htg : ∀ w ∈ wB, w.before #[Value.ref b] s = true) (hK : va_K D vwCl (fTys ct) s) (hI : fI 203 ad) (hA0 : ∀ i, i < 203 → lA s (ad i)) (hE : gE (lA s) s s.heap) {O : Nat → va_E} {Z : Nat → Int32} {r hv : Int32} {n e9 i9 k9 kd : Nat} (hJ : LJ ct ad O Z r n e9) (he9 : e9 < 52) (hkn : k9 < n) (hn22 : 2 ≤ n) (c0 s0 : Nat) (hc0 : c0 ≤ 600104) (hs0 : s0 ≤ 7301314) (kk : ∀ (O' : Nat → va_E) (Z' : Nat → Int32) (r' : Int32) (n' : Nat) (H : Heap) (locs : List Loc) (ls : Array Slot), LJ ct ad O' Z' r' n' (e9 + 1) → fP D 203 ad (pcw O' (lwc ct Z' r')) H → va_S (lA s) s.heap H locs → lv_has ls 16 [(12, .int (nI 1)), (8, .int (hv)), (7, .int (nI e9)), (6, .ref (ad 202)), (5, .ref (ad 201)), (4, .ref (ad 200)), (3, .ref (ad 199)), (2, .ref (ad 198)), (1, .ref (ad 0)), (0, .ref b)] → W p l e room_1 s m #[Value.ref b] below meth c H locs c0 s0 Q (F0 m 1023 ls [])) {H : Heap} {locs : List Loc} {ls : Array Slot} (hP : fP D 203 ad (pcw O (lwc ct Z r)) H) (hS : va_S (lA s) s.heap H locs) (hl : lv_has ls 16 [(12, .int (nI 1)), (11, .int (nI i9)), (10, .int (nI k9)), (9, .int (nI kd)), (8, .int (hv)), (7, .int (nI e9)), (6, .ref (ad 202)), (5, .ref (ad 201)), (4, .ref (ad 200)), (3, .ref (ad 199)), (2, .ref (ad 198)), (1, .ref (ad 0)), (0, .ref b)]) : W p l e room_1 s m #[Value.ref b] below meth c H locs c0 s0 Q (F0 m 520 ls []) := by
  have hJ0 := hJ
  obtain ⟨hOS, hri, hg, htl, hmt, ⟨t3, ht3, hz3⟩, hn2⟩ := hJ0
  have hn10 := hg.1.1
  have hO := hri.1
  have ho := hri.2.1
  obtain ⟨O1, hM1, hOS1⟩ := os_shed (l := l) (D := D) hOS hri hkn
  obtain ⟨fs0, h0⟩ := hOS.h5
  obtain ⟨fl1, fl2⟩ := flip_eq ((oI_bW hO).1 k9 hkn)
  rw [fl1] at hM1 hOS1
  refine lv_aload_n hx hb dL_law_520 rfl (lv_at hl 10 rfl) ?_
  refine lv_bipush (v := nI 6) hx hb dL_law_521 (by decide) ?_
  refine lv_iload hx hb dL_law_523 (lv_at hl 2 rfl) ?_
  refine lv_imulN hx hb dL_law_525 ?_
  refine lv_iconst (v := nI 5) hx hb dL_law_526 (by decide) ?_
  refine lv_iaddN hx hb dL_law_527 ?_
  refine lv_iconst (v := nI 1) hx hb dL_law_528 (by decide) ?_
  refine lv_aload_n hx hb dL_law_529 rfl (lv_at hl 10 rfl) ?_
  refine lv_bipush (v := nI 6) hx hb dL_law_530 (by decide) ?_
  refine lv_iload hx hb dL_law_532 (lv_at hl 2 rfl) ?_
  refine lv_imulN hx hb dL_law_534 ?_
  refine lv_iconst (v := nI 5) hx hb dL_law_535 (by decide) ?_
  refine lv_iaddN hx hb dL_law_536 ?_
  refine fr_iald (k := 198) (f := vwA Z) hx hb hK hP (by decide) rfl (by omega) (by decide) dL_law_537 ?_
  refine lv_teq (vwA_at (by omega) (by omega)) ?_
  refine lv_isub hx hb dL_law_538 ?_
  refine fr_iast (k := 198) (f := vwA Z) hx hb hK hI hP hS hA0 (by decide) rfl (by omega) (by decide) dL_law_539 (pcw5_he (by decide) (lhA (by omega) (by omega))) (fun H locs hP hS => ?_)
  refine lv_aload_n hx hb dL_law_540 rfl (lv_at hl 11 rfl) ?_
  refine lv_iload hx hb dL_law_541 (lv_at hl 2 rfl) ?_
  refine nw_Or (ceO := O) (ceO' := O1) (ce' := pcw O1 (lwc ct (upd Z (39 + 8 * k9 + 5) ((nI 1) - (Z (39 + 8 * k9 + 5)))) r)) (As := [.int (nI k9)]) (rest := []) hx hb hml hown htg hK hI hP hS hA0 hl.1 (by decide) pcl pcl pch hM1 cw_L_97 h0 rfl rfl ⟨Nat.le_of_ble_eq_true rfl, Nat.le_of_ble_eq_true rfl⟩ (Nat.le_of_ble_eq_true rfl) dL_law_543 ⟨(show c0 ≤ 600104 by omega), (show s0 ≤ 7301314 by omega)⟩ (fun H locs hP hS => ?_)
  refine lv_aload_n hx hb dL_law_546 rfl (lv_at hl 10 rfl) ?_
  refine lv_bipush (v := nI 6) hx hb dL_law_547 (by decide) ?_
  refine lv_iload hx hb dL_law_549 (lv_at hl 2 rfl) ?_
  refine lv_imulN hx hb dL_law_551 ?_
  refine lv_iconst (v := nI 5) hx hb dL_law_552 (by decide) ?_
  refine lv_iaddN hx hb dL_law_553 ?_
  refine fr_iald (k := 198) (f := vwA (upd Z (39 + 8 * k9 + 5) ((nI 1) - (Z (39 + 8 * k9 + 5))))) hx hb hK hP (by decide) rfl (by omega) (by decide) dL_law_554 ?_
  refine lv_teq (vwA_at (by omega) (by omega)) ?_
  refine lv_icmp_ne (tgt := 562) hx hb dL_law_555 (by decide) (fun h => absurd upd_s.symm h) (fun _ => ?_)
  refine lv_iconst (v := nI 1) hx hb dL_law_558 (by decide) ?_
  refine lv_goto (tgt := 563) hx hb dL_law_559 (by decide) ?_
  refine lv_istore (lv' := [(12, .int (nI 1)), (11, .int (nI i9)), (10, .int (nI k9)), (9, .int (nI kd)), (8, .int (hv)), (7, .int (nI e9)), (6, .ref (ad 202)), (5, .ref (ad 201)), (4, .ref (ad 200)), (3, .ref (ad 199)), (2, .ref (ad 198)), (1, .ref (ad 0)), (0, .ref b)]) hx hb dL_law_563 hl (by decide) rfl (fun ls hl => ?_)
  refine lv_goto (tgt := 1023) hx hb dL_law_565 (by decide) ?_
  have hl := lv_sub (l' := [(12, .int (nI 1)), (8, .int (hv)), (7, .int (nI e9)), (6, .ref (ad 202)), (5, .ref (ad 201)), (4, .ref (ad 200)), (3, .ref (ad 199)), (2, .ref (ad 198)), (1, .ref (ad 0)), (0, .ref b)]) hl [0, 4, 5, 6, 7, 8, 9, 10, 11, 12] rfl
  exact kk _ _ _ _ _ _ _ (LJ_upd hJ hn22 hOS1 (rI_shed hri hkn fl2) (lG_upd hg (by omega) (by omega) (fun _ _ => ⟨by omega, by omega, by omega⟩) (fun _ _ => by omega) (fun _ _ => by omega)) (by omega) (fun _ => ⟨by omega, by omega⟩) (fun _ _ => by omega) (fun _ _ => by omega)) hP hS hl
set_option maxRecDepth 100000 in
set_option maxHeartbeats 8000000 in
theorem lc_bound {p : Program} {l : Launch} {e : Env} {s : State} {m : MethodId} {below : List Frame} {meth : Method} {c : Code} {Q : State → Prop} {D : va_G} {ct : Nat → ClassId} {ad : Nat → Nat} {b : Nat} (hx : p.tables.exec = Jvm.exec) (hb : c.code = code) (hml : c.maxLocals = 16) (hown : s.vm.findClass RL = some m.cls) (htg : ∀ w ∈ wB, w.before #[Value.ref b] s = true) (hK : va_K D vwCl (fTys ct) s) (hI : fI 203 ad) (hA0 : ∀ i, i < 203 → lA s (ad i)) (hE : gE (lA s) s s.heap) {O : Nat → va_E} {Z : Nat → Int32} {r hv : Int32} {n e9 i9 k9 kd : Nat} (hJ : LJ ct ad O Z r n e9) (he9 : e9 < 52) (hi4 : i9 < 4) (hn22 : 2 ≤ n) (c0 s0 : Nat) (hc0 : c0 ≤ 600104) (hs0 : s0 ≤ 7301314) (kk : ∀ (O' : Nat → va_E) (Z' : Nat → Int32) (r' : Int32) (n' : Nat) (H : Heap) (locs : List Loc) (ls : Array Slot), LJ ct ad O' Z' r' n' (e9 + 1) → fP D 203 ad (pcw O' (lwc ct Z' r')) H → va_S (lA s) s.heap H locs → lv_has ls 16 [(12, .int (nI 1)), (8, .int (hv)), (7, .int (nI e9)), (6, .ref (ad 202)), (5, .ref (ad 201)), (4, .ref (ad 200)), (3, .ref (ad 199)), (2, .ref (ad 198)), (1, .ref (ad 0)), (0, .ref b)] → W p l e room_1 s m #[Value.ref b] below meth c H locs c0 s0 Q (F0 m 1023 ls [])) {H : Heap} {locs : List Loc} {ls : Array Slot} (hP : fP D 203 ad (pcw O (lwc ct Z r)) H) (hS : va_S (lA s) s.heap H locs) (hl : lv_has ls 16 [(12, .int (nI 1)), (11, .int (nI i9)), (10, .int (nI k9)), (9, .int (nI kd)), (8, .int (hv)), (7, .int (nI e9)), (6, .ref (ad 202)), (5, .ref (ad 201)), (4, .ref (ad 200)), (3, .ref (ad 199)), (2, .ref (ad 198)), (1, .ref (ad 0)), (0, .ref b)]) : W p l e room_1 s m #[Value.ref b] below meth c H locs c0 s0 Q (F0 m 575 ls []) := by
  have hJ0 := hJ
  obtain ⟨hOS, hri, hg, htl, hmt, ⟨t3, ht3, hz3⟩, hn2⟩ := hJ0
  have hn10 := hg.1.1
  have hO := hri.1
  have ho := hri.2.1
  obtain ⟨m9, hm9⟩ : ∃ z9, (if loN (hv >>> (nI 25 &&& 31)) 2 = 0 then 990 else 200) = z9 := ⟨_, rfl⟩
  have hm9v : m9 = 990 ∨ m9 = 200 := by rw [← hm9]; split; exact Or.inl rfl; exact Or.inr rfl
  obtain ⟨q, eq9⟩ : ∃ z9, loN (hv >>> (nI 11 &&& 31)) m9 = z9 := ⟨_, rfl⟩
  have hq : q < 990 := by have := loN_lt (v := hv >>> (nI 11 &&& 31)) (n := m9) (by omega); omega
  obtain ⟨O1, hM1, hOS1⟩ := os_bound (l := l) (D := D) (b := i9) (v := 10 + q) hOS hri hi4 (by omega) (by omega)
  obtain ⟨fs0, h0⟩ := hOS.h5
  refine lv_bipush (v := nI 10) hx hb dL_law_575 (by decide) ?_
  refine lv_iload hx hb dL_law_577 (lv_at hl 4 rfl) ?_
  refine lv_bipush (v := nI 11) hx hb dL_law_579 (by decide) ?_
  refine lv_ishr hx hb dL_law_581 ?_
  refine lv_iload hx hb dL_law_582 (lv_at hl 4 rfl) ?_
  refine lv_bipush (v := nI 25) hx hb dL_law_584 (by decide) ?_
  refine lv_ishr hx hb dL_law_586 ?_
  refine lv_iconst (v := nI 2) hx hb dL_law_587 (by decide) ?_
  refine nw_Sr (N1 := 5) (nm := (fun z => 198 + z)) (ce1 := lwc ct Z r) (ce1' := lwc ct Z r) (ce' := pcw O (lwc ct Z r)) (As := [.int (hv >>> ((nI 25) &&& 31)), .int (nI 2)]) (rest := [.int (hv >>> ((nI 11) &&& 31)), .int (nI 10)]) hx hb hml hown htg hK hI hP hS hA0 hl.1 p203 pinj pcr pcr (fun _ _ _ => rfl) (mL_low l D ct (fun z => ad ((fun z => 198 + z) z)) Z r (hv >>> ((nI 25) &&& 31)) 2 (by omega) (by omega)) cw_L_62 rfl rfl ⟨Nat.le_of_ble_eq_true rfl, Nat.le_of_ble_eq_true rfl⟩ (Nat.le_of_ble_eq_true rfl) dL_law_588 ⟨(show c0 ≤ 600104 by omega), (show s0 ≤ 7301314 by omega)⟩ (fun H locs hP hS => ?_)
  have hlo := @loN_lt (hv >>> ((nI 25) &&& 31)) 2 (by omega)
  suffices hJ603 : W p l e room_1 s m #[Value.ref b] below meth c H locs (c0) (s0) Q (F0 m 603 ls [.int (nI m9), .int (hv >>> ((nI 11) &&& 31)), .int (nI 10)]) by
    refine lv_ifneN (tgt := 600) hx hb (by omega) dL_law_591 (by decide) (fun c591 => ?_) (fun c591 => ?_)
    · refine lv_sipush (v := nI 200) hx hb dL_law_600 (by decide) ?_
      exact lv_tveq (show Value.int (nI 200) = Value.int (nI m9) from by exact congrArg Value.int (congrArg nI ((if_neg c591).symm.trans hm9))) hJ603
    · refine lv_sipush (v := nI 990) hx hb dL_law_594 (by decide) ?_
      refine lv_goto (tgt := 603) hx hb dL_law_597 (by decide) ?_
      exact lv_tveq (show Value.int (nI 990) = Value.int (nI m9) from by exact congrArg Value.int (congrArg nI ((if_pos c591).symm.trans hm9))) hJ603
  refine nw_Sr (N1 := 5) (nm := (fun z => 198 + z)) (ce1 := lwc ct Z r) (ce1' := lwc ct Z r) (ce' := pcw O (lwc ct Z r)) (As := [.int (hv >>> ((nI 11) &&& 31)), .int (nI m9)]) (rest := [.int (nI 10)]) hx hb hml hown htg hK hI hP hS hA0 hl.1 p203 pinj pcr pcr (fun _ _ _ => rfl) (mL_low l D ct (fun z => ad ((fun z => 198 + z) z)) Z r (hv >>> ((nI 11) &&& 31)) m9 (by omega) (by omega)) cw_L_62 rfl rfl ⟨Nat.le_of_ble_eq_true rfl, Nat.le_of_ble_eq_true rfl⟩ (Nat.le_of_ble_eq_true rfl) dL_law_603 ⟨(show c0 ≤ 600104 by omega), (show s0 ≤ 7301314 by omega)⟩ (fun H locs hP hS => ?_)
  have hlo := @loN_lt (hv >>> ((nI 11) &&& 31)) m9 (by omega)
  rw [eq9]
  refine lv_iaddN hx hb dL_law_606 ?_
  refine lv_istore (lv' := [(13, .int (nI (10 + q))), (12, .int (nI 1)), (11, .int (nI i9)), (10, .int (nI k9)), (9, .int (nI kd)), (8, .int (hv)), (7, .int (nI e9)), (6, .ref (ad 202)), (5, .ref (ad 201)), (4, .ref (ad 200)), (3, .ref (ad 199)), (2, .ref (ad 198)), (1, .ref (ad 0)), (0, .ref b)]) hx hb dL_law_607 hl (by decide) rfl (fun ls hl => ?_)
  refine lv_aload_n hx hb dL_law_609 rfl (lv_at hl 12 rfl) ?_
  refine lv_iload hx hb dL_law_610 (lv_at hl 2 rfl) ?_
  refine lv_iload hx hb dL_law_612 (lv_at hl 0 rfl) ?_
  refine nw_Or (ceO := O) (ceO' := O1) (ce' := pcw O1 (lwc ct Z r)) (As := [.int (nI i9), .int (nI (10 + q))]) (rest := []) hx hb hml hown htg hK hI hP hS hA0 hl.1 (by decide) pcl pcl pch hM1 cw_L_100 h0 rfl rfl ⟨Nat.le_of_ble_eq_true rfl, Nat.le_of_ble_eq_true rfl⟩ (Nat.le_of_ble_eq_true rfl) dL_law_614 ⟨(show c0 ≤ 600104 by omega), (show s0 ≤ 7301314 by omega)⟩ (fun H locs hP hS => ?_)
  refine lv_aload hx hb dL_law_617 (lv_at hl 9 rfl) ?_
  refine lv_iconst (v := nI 5) hx hb dL_law_619 (by decide) ?_
  refine lv_iload hx hb dL_law_620 (lv_at hl 2 rfl) ?_
  refine lv_imulN hx hb dL_law_622 ?_
  refine fr_iald (k := 200) (f := vwB Z) hx hb hK hP (by decide) rfl (by omega) (by decide) dL_law_623 ?_
  refine lv_teq (vwB_a0 (by omega)) ?_
  refine lv_icmp_ne (tgt := 631) hx hb dL_law_624 (by decide) (fun h => absurd rfl h) (fun _ => ?_)
  refine lv_iconst (v := nI 1) hx hb dL_law_627 (by decide) ?_
  refine lv_goto (tgt := 632) hx hb dL_law_628 (by decide) ?_
  refine lv_istore (lv' := [(12, .int (nI 1)), (13, .int (nI (10 + q))), (11, .int (nI i9)), (10, .int (nI k9)), (9, .int (nI kd)), (8, .int (hv)), (7, .int (nI e9)), (6, .ref (ad 202)), (5, .ref (ad 201)), (4, .ref (ad 200)), (3, .ref (ad 199)), (2, .ref (ad 198)), (1, .ref (ad 0)), (0, .ref b)]) hx hb dL_law_632 hl (by decide) rfl (fun ls hl => ?_)
  refine lv_aload hx hb dL_law_634 (lv_at hl 9 rfl) ?_
  refine lv_iconst (v := nI 5) hx hb dL_law_636 (by decide) ?_
  refine lv_iload hx hb dL_law_637 (lv_at hl 2 rfl) ?_
  refine lv_imulN hx hb dL_law_639 ?_
  refine lv_iload hx hb dL_law_640 (lv_at hl 1 rfl) ?_
  refine fr_iast (k := 200) (f := vwB Z) hx hb hK hI hP hS hA0 (by decide) rfl (by omega) (by decide) dL_law_642 (pcw5_he (by decide) (lhB0 (by omega))) (fun H locs hP hS => ?_)
  refine lv_goto (tgt := 1023) hx hb dL_law_643 (by decide) ?_
  have hl := lv_sub (l' := [(12, .int (nI 1)), (8, .int (hv)), (7, .int (nI e9)), (6, .ref (ad 202)), (5, .ref (ad 201)), (4, .ref (ad 200)), (3, .ref (ad 199)), (2, .ref (ad 198)), (1, .ref (ad 0)), (0, .ref b)]) hl [0, 5, 6, 7, 8, 9, 10, 11, 12, 13] rfl
  exact kk _ _ _ _ _ _ _ (LJ_upd hJ hn22 hOS1 (rI_bound hri hi4 (inB_v9 (by omega) (by omega) (by omega))) (lG_bound hg hi4 (by omega)) (by omega) (fun _ => ⟨by omega, by omega⟩) (fun _ _ => by omega) (fun _ _ => by omega)) hP hS hl
set_option maxRecDepth 100000 in
set_option maxHeartbeats 8000000 in
theorem lc_reset {p : Program} {l : Launch} {e : Env} {s : State} {m : MethodId} {below : List Frame} {meth : Method} {c : Code} {Q : State → Prop} {D : va_G} {ct : Nat → ClassId} {ad : Nat → Nat} {b : Nat} (hx : p.tables.exec = Jvm.exec) (hb : c.code = code) (hml : c.maxLocals = 16) (hown : s.vm.findClass RL = some m.cls) (htg : ∀ w ∈ wB, w.before #[Value.ref b] s = true) (hK : va_K D vwCl (fTys ct) s) (hI : fI 203 ad) (hA0 : ∀ i, i < 203 → lA s (ad i)) (hE : gE (lA s) s s.heap) {O : Nat → va_E} {Z : Nat → Int32} {r hv : Int32} {n e9 i9 k9 kd : Nat} (hJ : LJ ct ad O Z r n e9) (he9 : e9 < 52) (hi4 : i9 < 4) (hn22 : 2 ≤ n) (hz1 : Z (7 + 5 * i9 + 1) = 0) (c0 s0 : Nat) (hc0 : c0 ≤ 600104) (hs0 : s0 ≤ 7301314) (kk : ∀ (O' : Nat → va_E) (Z' : Nat → Int32) (r' : Int32) (n' : Nat) (H : Heap) (locs : List Loc) (ls : Array Slot), LJ ct ad O' Z' r' n' (e9 + 1) → fP D 203 ad (pcw O' (lwc ct Z' r')) H → va_S (lA s) s.heap H locs → lv_has ls 16 [(12, .int (nI 1)), (8, .int (hv)), (7, .int (nI e9)), (6, .ref (ad 202)), (5, .ref (ad 201)), (4, .ref (ad 200)), (3, .ref (ad 199)), (2, .ref (ad 198)), (1, .ref (ad 0)), (0, .ref b)] → W p l e room_1 s m #[Value.ref b] below meth c H locs c0 s0 Q (F0 m 1023 ls [])) {H : Heap} {locs : List Loc} {ls : Array Slot} (hP : fP D 203 ad (pcw O (lwc ct Z r)) H) (hS : va_S (lA s) s.heap H locs) (hl : lv_has ls 16 [(12, .int (nI 1)), (11, .int (nI i9)), (10, .int (nI k9)), (9, .int (nI kd)), (8, .int (hv)), (7, .int (nI e9)), (6, .ref (ad 202)), (5, .ref (ad 201)), (4, .ref (ad 200)), (3, .ref (ad 199)), (2, .ref (ad 198)), (1, .ref (ad 0)), (0, .ref b)]) : W p l e room_1 s m #[Value.ref b] below meth c H locs c0 s0 Q (F0 m 665 ls []) := by
  have hJ0 := hJ
  obtain ⟨hOS, hri, hg, htl, hmt, ⟨t3, ht3, hz3⟩, hn2⟩ := hJ0
  have hn10 := hg.1.1
  have hO := hri.1
  have ho := hri.2.1
  obtain ⟨O1, hM1, hOS1⟩ := os_reset (l := l) (D := D) (b := i9) hOS hri hi4 hz1
  obtain ⟨fs0, h0⟩ := hOS.h5
  have hgp : lG r (pon Z i9) n := lG_upd (lG_upd hg (by omega) (by omega) (fun _ _ => ⟨by omega, by omega, by omega⟩) (fun _ _ => by omega) (fun _ _ => by omega)) (by omega) (by omega) (fun _ _ => ⟨by omega, by omega, by omega⟩) (fun _ _ => by omega) (fun _ _ => by omega)
  refine lv_aload hx hb dL_law_665 (lv_at hl 8 rfl) ?_
  refine lv_iconst (v := nI 5) hx hb dL_law_667 (by decide) ?_
  refine lv_iload hx hb dL_law_668 (lv_at hl 1 rfl) ?_
  refine lv_imulN hx hb dL_law_670 ?_
  refine lv_iconst (v := nI 1) hx hb dL_law_671 (by decide) ?_
  refine lv_iaddN hx hb dL_law_672 ?_
  refine lv_iconst (v := nI 1) hx hb dL_law_673 (by decide) ?_
  refine fr_iast (k := 200) (f := vwB Z) hx hb hK hI hP hS hA0 (by decide) rfl (by omega) (by decide) dL_law_674 (pcw5_he (by decide) (lhB (by omega) (by omega))) (fun H locs hP hS => ?_)
  refine lv_aload hx hb dL_law_675 (lv_at hl 8 rfl) ?_
  refine lv_iconst (v := nI 5) hx hb dL_law_677 (by decide) ?_
  refine lv_iload hx hb dL_law_678 (lv_at hl 1 rfl) ?_
  refine lv_imulN hx hb dL_law_680 ?_
  refine lv_iconst (v := nI 2) hx hb dL_law_681 (by decide) ?_
  refine lv_iaddN hx hb dL_law_682 ?_
  refine lv_iconst (v := nI 0) hx hb dL_law_683 (by decide) ?_
  refine fr_iast (k := 200) (f := vwB (upd Z (7 + 5 * i9 + 1) (nI 1))) hx hb hK hI hP hS hA0 (by decide) rfl (by omega) (by decide) dL_law_684 (pcw5_he (by decide) (lhB (by omega) (by omega))) (fun H locs hP hS => ?_)
  have hP : fP D 203 ad (pcw O (lwc ct (pon Z i9) r)) H := hP
  refine lv_iconst (v := nI 0) hx hb dL_law_685 (by decide) ?_
  refine lv_istore (lv' := [(13, .int (nI 0)), (12, .int (nI 1)), (11, .int (nI i9)), (10, .int (nI k9)), (9, .int (nI kd)), (8, .int (hv)), (7, .int (nI e9)), (6, .ref (ad 202)), (5, .ref (ad 201)), (4, .ref (ad 200)), (3, .ref (ad 199)), (2, .ref (ad 198)), (1, .ref (ad 0)), (0, .ref b)]) hx hb dL_law_686 hl (by decide) rfl (fun ls hl => ?_)
  refine lv_iconst (v := nI 0) hx hb dL_law_688 (by decide) ?_
  refine lv_istore (lv' := [(14, .int (nI 0)), (13, .int (nI 0)), (12, .int (nI 1)), (11, .int (nI i9)), (10, .int (nI k9)), (9, .int (nI kd)), (8, .int (hv)), (7, .int (nI e9)), (6, .ref (ad 202)), (5, .ref (ad 201)), (4, .ref (ad 200)), (3, .ref (ad 199)), (2, .ref (ad 198)), (1, .ref (ad 0)), (0, .ref b)]) hx hb dL_law_689 hl (by decide) rfl (fun ls hl => ?_)
  have lp691 : ∀ (fu691 : Nat) (j : Nat), j ≤ n → n - j < fu691 → ∀ (H : Heap) (locs : List Loc), fP D 203 ad (pcw O (lwc ct (pon Z i9) r)) H → va_S (lA s) s.heap H locs → ∀ (ls : Array Slot), lv_has ls 16 [(14, .int (nI j)), (13, .int (drS (pon Z i9) i9 j)), (12, .int (nI 1)), (11, .int (nI i9)), (10, .int (nI k9)), (9, .int (nI kd)), (8, .int (hv)), (7, .int (nI e9)), (6, .ref (ad 202)), (5, .ref (ad 201)), (4, .ref (ad 200)), (3, .ref (ad 199)), (2, .ref (ad 198)), (1, .ref (ad 0)), (0, .ref b)] → W p l e room_1 s m #[Value.ref b] below meth c H locs (c0) (s0) Q (F0 m 691 ls []) := by
    intro fu691
    induction fu691 with
    | zero => intro j hj hfu691; exact absurd hfu691 (Nat.not_lt_zero _)
    | succ fu691 ih691 =>
      intro j hj hfu691 H locs hP hS ls hl
      refine lv_iload hx hb dL_law_691 (lv_at hl 0 rfl) ?_
      refine lv_aload hx hb dL_law_693 (lv_at hl 8 rfl) ?_
      refine lv_iconst (v := nI 4) hx hb dL_law_695 (by decide) ?_
      refine fr_iald (k := 202) (f := vwT (pon Z i9)) hx hb hK hP (by decide) rfl (by omega) (by decide) dL_law_696 ?_
      refine lv_teq (vwT_at (by omega)) ?_
      refine lv_teq (hgp).1.2.1 ?_
      refine lv_icmp_geN (tgt := 750) hx hb (by omega) (by omega) dL_law_697 (by decide) (fun c697 => ?_) (fun c697 => ?_)
      · have e9 : n = j := by omega
        subst e9
        refine lv_aload_n hx hb dL_law_750 rfl (lv_at hl 13 rfl) ?_
        refine lv_iload hx hb dL_law_751 (lv_at hl 3 rfl) ?_
        refine nw_Or (ceO := O) (ceO' := O1) (ce' := pcw O1 (lwc ct (pon Z i9) r)) (As := [.int (nI i9)]) (rest := []) hx hb hml hown htg hK hI hP hS hA0 hl.1 (by decide) pcl pcl pch hM1 cw_L_103 h0 rfl rfl ⟨Nat.le_of_ble_eq_true rfl, Nat.le_of_ble_eq_true rfl⟩ (Nat.le_of_ble_eq_true rfl) dL_law_753 ⟨(show c0 ≤ 600104 by omega), (show s0 ≤ 7301314 by omega)⟩ (fun H locs hP hS => ?_)
        refine lv_iload hx hb dL_law_756 (lv_at hl 1 rfl) ?_
        refine lv_icmp_ne (tgt := 765) hx hb dL_law_758 (by decide) (fun h => absurd rfl h) (fun _ => ?_)
        refine lv_iconst (v := nI 1) hx hb dL_law_761 (by decide) ?_
        refine lv_goto (tgt := 766) hx hb dL_law_762 (by decide) ?_
        refine lv_istore (lv' := [(12, .int (nI 1)), (14, .int (nI n)), (13, .int (drS (pon Z i9) i9 n)), (11, .int (nI i9)), (10, .int (nI k9)), (9, .int (nI kd)), (8, .int (hv)), (7, .int (nI e9)), (6, .ref (ad 202)), (5, .ref (ad 201)), (4, .ref (ad 200)), (3, .ref (ad 199)), (2, .ref (ad 198)), (1, .ref (ad 0)), (0, .ref b)]) hx hb dL_law_766 hl (by decide) rfl (fun ls hl => ?_)
        refine lv_goto (tgt := 1023) hx hb dL_law_768 (by decide) ?_
        have hl := lv_sub (l' := [(12, .int (nI 1)), (8, .int (hv)), (7, .int (nI e9)), (6, .ref (ad 202)), (5, .ref (ad 201)), (4, .ref (ad 200)), (3, .ref (ad 199)), (2, .ref (ad 198)), (1, .ref (ad 0)), (0, .ref b)]) hl [0, 6, 7, 8, 9, 10, 11, 12, 13, 14] rfl
        exact kk _ _ _ _ _ _ _ (LJ_pon hJ hn22 hi4 hOS1 (rI_pon hri hi4) hgp) hP hS hl
      · refine lv_iload hx hb dL_law_700 (lv_at hl 1 rfl) ?_
        refine lv_aload_n hx hb dL_law_702 rfl (lv_at hl 12 rfl) ?_
        refine lv_aload hx hb dL_law_703 (lv_at hl 10 rfl) ?_
        refine lv_aload hx hb dL_law_705 (lv_at hl 9 rfl) ?_
        refine lv_aload hx hb dL_law_707 (lv_at hl 8 rfl) ?_
        refine lv_iload hx hb dL_law_709 (lv_at hl 0 rfl) ?_
        refine nw_Sr (N1 := 5) (nm := (fun z => 198 + z)) (ce1 := lwc ct (pon Z i9) r) (ce1' := lwc ct (pon Z i9) r) (ce' := pcw O (lwc ct (pon Z i9) r)) (As := [.ref (ad 198), .ref (ad 200), .ref (ad 201), .ref (ad 202), .int (nI j)]) (rest := [.int (drS (pon Z i9) i9 j)]) hx hb hml hown htg hK hI hP hS hA0 hl.1 p203 pinj pcr pcr (fun _ _ _ => rfl) (mL_reason l D ct (fun z => ad ((fun z => 198 + z) z)) (pon Z i9) r j n hgp (by omega)) cw_L_20 rfl rfl ⟨Nat.le_of_ble_eq_true rfl, Nat.le_of_ble_eq_true rfl⟩ (Nat.le_of_ble_eq_true rfl) dL_law_711 ⟨(show c0 ≤ 600104 by omega), (show s0 ≤ 7301314 by omega)⟩ (fun H locs hP hS => ?_)
        have hrl := @rsn_lt (pon Z i9) j
        refine lv_ifneN (tgt := 740) hx hb (by omega) dL_law_714 (by decide) (fun c714 => ?_) (fun c714 => ?_)
        · refine lv_iconst (v := nI 0) hx hb dL_law_740 (by decide) ?_
          refine lv_iadd hx hb dL_law_741 ?_
          refine lv_istore (lv' := [(13, .int ((drS (pon Z i9) i9 j) + (nI 0))), (14, .int (nI j)), (12, .int (nI 1)), (11, .int (nI i9)), (10, .int (nI k9)), (9, .int (nI kd)), (8, .int (hv)), (7, .int (nI e9)), (6, .ref (ad 202)), (5, .ref (ad 201)), (4, .ref (ad 200)), (3, .ref (ad 199)), (2, .ref (ad 198)), (1, .ref (ad 0)), (0, .ref b)]) hx hb dL_law_742 hl (by decide) rfl (fun ls hl => ?_)
          refine lv_iinc (v := nI (j + 1)) (lv' := [(14, .int (nI (j + 1))), (13, .int ((drS (pon Z i9) i9 j) + (nI 0))), (12, .int (nI 1)), (11, .int (nI i9)), (10, .int (nI k9)), (9, .int (nI kd)), (8, .int (hv)), (7, .int (nI e9)), (6, .ref (ad 202)), (5, .ref (ad 201)), (4, .ref (ad 200)), (3, .ref (ad 199)), (2, .ref (ad 198)), (1, .ref (ad 0)), (0, .ref b)]) hx hb dL_law_744 hl (k := 1) rfl (nI_add j 1) (by decide) rfl (fun ls hl => ?_)
          refine lv_goto (tgt := 691) hx hb dL_law_747 (by decide) ?_
          have hl := lv_sub (l' := [(14, .int (nI (j + 1))), (13, .int ((drS (pon Z i9) i9 j) + (nI 0))), (12, .int (nI 1)), (11, .int (nI i9)), (10, .int (nI k9)), (9, .int (nI kd)), (8, .int (hv)), (7, .int (nI e9)), (6, .ref (ad 202)), (5, .ref (ad 201)), (4, .ref (ad 200)), (3, .ref (ad 199)), (2, .ref (ad 198)), (1, .ref (ad 0)), (0, .ref b)]) hl [0, 1, 2, 3, 4, 5, 6, 7, 8, 9, 10, 11, 12, 13, 14] rfl
          have le13 : Value.int ((drS (pon Z i9) i9 j) + (nI 0)) = Value.int (drS (pon Z i9) i9 (j + 1)) := by first | (exfalso; omega) | (simp only [drS, drwB, onB, c697, Nat.not_le.mpr c697, c714, decide_true, decide_false, Bool.and_true, Bool.true_and, Bool.and_false, Bool.false_and, Bool.or_true, Bool.true_or, Bool.or_false, Bool.false_or, Bool.and_self, Bool.or_self, if_true, if_false, eq_self, Bool.false_eq_true, Bool.true_eq_false, reduceCtorEq, nI_0, not_true_eq_false, not_false_eq_true, and_true, true_and, and_false, false_and, or_true, true_or, or_false, false_or, and_self, or_self, Int32.add_zero]; done) | (simp [drS, drwB, onB, c697, Nat.not_le.mpr c697, c714, nI_0]; done) | (simp only [drS, drwB, onB, c697, Nat.not_le.mpr c697, c714, decide_true, decide_false, Bool.and_true, Bool.true_and, Bool.and_false, Bool.false_and, Bool.or_true, Bool.true_or, Bool.or_false, Bool.false_or, Bool.and_self, Bool.or_self, if_true, if_false, eq_self, Bool.false_eq_true, Bool.true_eq_false, reduceCtorEq, nI_0, not_true_eq_false, not_false_eq_true, and_true, true_and, and_false, false_and, or_true, true_or, or_false, false_or, and_self, or_self, Int32.add_zero]; omega) | (simp [drS, drwB, onB, c697, Nat.not_le.mpr c697, c714, nI_0]; omega)
          have hl := lv_hasE hl (lcons rfl (lcons le13 (lcons rfl (lcons rfl (lcons rfl (lcons rfl (lcons rfl (lcons rfl (lcons rfl (lcons rfl (lcons rfl (lcons rfl (lcons rfl (lcons rfl (lcons rfl rfl)))))))))))))))
          exact ih691 (j + 1) (by omega) (by omega) _ _ hP hS _ hl
        · have d4 : ¬ (pon Z i9) (39 + 8 * j + 4) = -1 := rsn0_at c714
          have hq9 := skt_lt hgp.1 (by omega) d4
          have hb9 := brk_lt (Z := (pon Z i9)) hq9
          refine lv_aload hx hb dL_law_717 (lv_at hl 9 rfl) ?_
          refine lv_aload_n hx hb dL_law_719 rfl (lv_at hl 12 rfl) ?_
          refine lv_bipush (v := nI 6) hx hb dL_law_720 (by decide) ?_
          refine lv_iload hx hb dL_law_722 (lv_at hl 0 rfl) ?_
          refine lv_imulN hx hb dL_law_724 ?_
          refine lv_iconst (v := nI 4) hx hb dL_law_725 (by decide) ?_
          refine lv_iaddN hx hb dL_law_726 ?_
          refine fr_iald (k := 198) (f := vwA (pon Z i9)) hx hb hK hP (by decide) rfl (by omega) (by decide) dL_law_727 ?_
          refine lv_teq (vwA_at (by omega) (by omega)) ?_
          refine lv_teq (skt_eq hgp.1 (by omega) d4) ?_
          refine nw_Sr (N1 := 5) (nm := (fun z => 198 + z)) (ce1 := lwc ct (pon Z i9) r) (ce1' := lwc ct (pon Z i9) r) (ce' := pcw O (lwc ct (pon Z i9) r)) (As := [.ref (ad 201), .int (nI (skt (pon Z i9) j))]) (rest := [.int (drS (pon Z i9) i9 j)]) hx hb hml hown htg hK hI hP hS hA0 hl.1 p203 pinj pcr pcr (fun _ _ _ => rfl) (mL_breaker l D ct (fun z => ad ((fun z => 198 + z) z)) (pon Z i9) r (skt (pon Z i9) j) (by omega) ((hgp).2.1)) cw_L_16 rfl rfl ⟨Nat.le_of_ble_eq_true rfl, Nat.le_of_ble_eq_true rfl⟩ (Nat.le_of_ble_eq_true rfl) dL_law_728 ⟨(show c0 ≤ 600104 by omega), (show s0 ≤ 7301314 by omega)⟩ (fun H locs hP hS => ?_)
          have hbk := @brk_lt (pon Z i9) (skt (pon Z i9) j) (by omega)
          refine lv_iload hx hb dL_law_731 (lv_at hl 3 rfl) ?_
          refine lv_icmp_neN (tgt := 740) hx hb (by omega) (by omega) dL_law_733 (by decide) (fun c733 => ?_) (fun c733 => ?_)
          · refine lv_iconst (v := nI 0) hx hb dL_law_740 (by decide) ?_
            refine lv_iadd hx hb dL_law_741 ?_
            refine lv_istore (lv' := [(13, .int ((drS (pon Z i9) i9 j) + (nI 0))), (14, .int (nI j)), (12, .int (nI 1)), (11, .int (nI i9)), (10, .int (nI k9)), (9, .int (nI kd)), (8, .int (hv)), (7, .int (nI e9)), (6, .ref (ad 202)), (5, .ref (ad 201)), (4, .ref (ad 200)), (3, .ref (ad 199)), (2, .ref (ad 198)), (1, .ref (ad 0)), (0, .ref b)]) hx hb dL_law_742 hl (by decide) rfl (fun ls hl => ?_)
            refine lv_iinc (v := nI (j + 1)) (lv' := [(14, .int (nI (j + 1))), (13, .int ((drS (pon Z i9) i9 j) + (nI 0))), (12, .int (nI 1)), (11, .int (nI i9)), (10, .int (nI k9)), (9, .int (nI kd)), (8, .int (hv)), (7, .int (nI e9)), (6, .ref (ad 202)), (5, .ref (ad 201)), (4, .ref (ad 200)), (3, .ref (ad 199)), (2, .ref (ad 198)), (1, .ref (ad 0)), (0, .ref b)]) hx hb dL_law_744 hl (k := 1) rfl (nI_add j 1) (by decide) rfl (fun ls hl => ?_)
            refine lv_goto (tgt := 691) hx hb dL_law_747 (by decide) ?_
            have hl := lv_sub (l' := [(14, .int (nI (j + 1))), (13, .int ((drS (pon Z i9) i9 j) + (nI 0))), (12, .int (nI 1)), (11, .int (nI i9)), (10, .int (nI k9)), (9, .int (nI kd)), (8, .int (hv)), (7, .int (nI e9)), (6, .ref (ad 202)), (5, .ref (ad 201)), (4, .ref (ad 200)), (3, .ref (ad 199)), (2, .ref (ad 198)), (1, .ref (ad 0)), (0, .ref b)]) hl [0, 1, 2, 3, 4, 5, 6, 7, 8, 9, 10, 11, 12, 13, 14] rfl
            have le13 : Value.int ((drS (pon Z i9) i9 j) + (nI 0)) = Value.int (drS (pon Z i9) i9 (j + 1)) := by first | (exfalso; omega) | (simp only [drS, drwB, onB, c697, Nat.not_le.mpr c697, c714, d4, c733, decide_true, decide_false, Bool.and_true, Bool.true_and, Bool.and_false, Bool.false_and, Bool.or_true, Bool.true_or, Bool.or_false, Bool.false_or, Bool.and_self, Bool.or_self, if_true, if_false, eq_self, Bool.false_eq_true, Bool.true_eq_false, reduceCtorEq, nI_0, not_true_eq_false, not_false_eq_true, and_true, true_and, and_false, false_and, or_true, true_or, or_false, false_or, and_self, or_self, Int32.add_zero]; done) | (simp [drS, drwB, onB, c697, Nat.not_le.mpr c697, c714, d4, c733, nI_0]; done) | (simp only [drS, drwB, onB, c697, Nat.not_le.mpr c697, c714, d4, c733, decide_true, decide_false, Bool.and_true, Bool.true_and, Bool.and_false, Bool.false_and, Bool.or_true, Bool.true_or, Bool.or_false, Bool.false_or, Bool.and_self, Bool.or_self, if_true, if_false, eq_self, Bool.false_eq_true, Bool.true_eq_false, reduceCtorEq, nI_0, not_true_eq_false, not_false_eq_true, and_true, true_and, and_false, false_and, or_true, true_or, or_false, false_or, and_self, or_self, Int32.add_zero]; omega) | (simp [drS, drwB, onB, c697, Nat.not_le.mpr c697, c714, d4, c733, nI_0]; omega)
            have hl := lv_hasE hl (lcons rfl (lcons le13 (lcons rfl (lcons rfl (lcons rfl (lcons rfl (lcons rfl (lcons rfl (lcons rfl (lcons rfl (lcons rfl (lcons rfl (lcons rfl (lcons rfl (lcons rfl rfl)))))))))))))))
            exact ih691 (j + 1) (by omega) (by omega) _ _ hP hS _ hl
          · refine lv_iconst (v := nI 1) hx hb dL_law_736 (by decide) ?_
            refine lv_goto (tgt := 741) hx hb dL_law_737 (by decide) ?_
            refine lv_iadd hx hb dL_law_741 ?_
            refine lv_istore (lv' := [(13, .int ((drS (pon Z i9) i9 j) + (nI 1))), (14, .int (nI j)), (12, .int (nI 1)), (11, .int (nI i9)), (10, .int (nI k9)), (9, .int (nI kd)), (8, .int (hv)), (7, .int (nI e9)), (6, .ref (ad 202)), (5, .ref (ad 201)), (4, .ref (ad 200)), (3, .ref (ad 199)), (2, .ref (ad 198)), (1, .ref (ad 0)), (0, .ref b)]) hx hb dL_law_742 hl (by decide) rfl (fun ls hl => ?_)
            refine lv_iinc (v := nI (j + 1)) (lv' := [(14, .int (nI (j + 1))), (13, .int ((drS (pon Z i9) i9 j) + (nI 1))), (12, .int (nI 1)), (11, .int (nI i9)), (10, .int (nI k9)), (9, .int (nI kd)), (8, .int (hv)), (7, .int (nI e9)), (6, .ref (ad 202)), (5, .ref (ad 201)), (4, .ref (ad 200)), (3, .ref (ad 199)), (2, .ref (ad 198)), (1, .ref (ad 0)), (0, .ref b)]) hx hb dL_law_744 hl (k := 1) rfl (nI_add j 1) (by decide) rfl (fun ls hl => ?_)
            refine lv_goto (tgt := 691) hx hb dL_law_747 (by decide) ?_
            have hl := lv_sub (l' := [(14, .int (nI (j + 1))), (13, .int ((drS (pon Z i9) i9 j) + (nI 1))), (12, .int (nI 1)), (11, .int (nI i9)), (10, .int (nI k9)), (9, .int (nI kd)), (8, .int (hv)), (7, .int (nI e9)), (6, .ref (ad 202)), (5, .ref (ad 201)), (4, .ref (ad 200)), (3, .ref (ad 199)), (2, .ref (ad 198)), (1, .ref (ad 0)), (0, .ref b)]) hl [0, 1, 2, 3, 4, 5, 6, 7, 8, 9, 10, 11, 12, 13, 14] rfl
            have le13 : Value.int ((drS (pon Z i9) i9 j) + (nI 1)) = Value.int (drS (pon Z i9) i9 (j + 1)) := by first | (exfalso; omega) | (simp only [drS, drwB, onB, c697, Nat.not_le.mpr c697, c714, d4, c733, decide_true, decide_false, Bool.and_true, Bool.true_and, Bool.and_false, Bool.false_and, Bool.or_true, Bool.true_or, Bool.or_false, Bool.false_or, Bool.and_self, Bool.or_self, if_true, if_false, eq_self, Bool.false_eq_true, Bool.true_eq_false, reduceCtorEq, nI_0, not_true_eq_false, not_false_eq_true, and_true, true_and, and_false, false_and, or_true, true_or, or_false, false_or, and_self, or_self, Int32.add_zero]; done) | (simp [drS, drwB, onB, c697, Nat.not_le.mpr c697, c714, d4, c733, nI_0]; done) | (simp only [drS, drwB, onB, c697, Nat.not_le.mpr c697, c714, d4, c733, decide_true, decide_false, Bool.and_true, Bool.true_and, Bool.and_false, Bool.false_and, Bool.or_true, Bool.true_or, Bool.or_false, Bool.false_or, Bool.and_self, Bool.or_self, if_true, if_false, eq_self, Bool.false_eq_true, Bool.true_eq_false, reduceCtorEq, nI_0, not_true_eq_false, not_false_eq_true, and_true, true_and, and_false, false_and, or_true, true_or, or_false, false_or, and_self, or_self, Int32.add_zero]; omega) | (simp [drS, drwB, onB, c697, Nat.not_le.mpr c697, c714, d4, c733, nI_0]; omega)
            have hl := lv_hasE hl (lcons rfl (lcons le13 (lcons rfl (lcons rfl (lcons rfl (lcons rfl (lcons rfl (lcons rfl (lcons rfl (lcons rfl (lcons rfl (lcons rfl (lcons rfl (lcons rfl (lcons rfl rfl)))))))))))))))
            exact ih691 (j + 1) (by omega) (by omega) _ _ hP hS _ hl
  have hl := lv_sub (l' := [(14, .int (nI 0)), (13, .int (nI 0)), (12, .int (nI 1)), (11, .int (nI i9)), (10, .int (nI k9)), (9, .int (nI kd)), (8, .int (hv)), (7, .int (nI e9)), (6, .ref (ad 202)), (5, .ref (ad 201)), (4, .ref (ad 200)), (3, .ref (ad 199)), (2, .ref (ad 198)), (1, .ref (ad 0)), (0, .ref b)]) hl [0, 1, 2, 3, 4, 5, 6, 7, 8, 9, 10, 11, 12, 13, 14] rfl
  have le13 : Value.int (nI 0) = Value.int (drS (pon Z i9) i9 0) := by rfl
  have hl := lv_hasE hl (lcons rfl (lcons le13 (lcons rfl (lcons rfl (lcons rfl (lcons rfl (lcons rfl (lcons rfl (lcons rfl (lcons rfl (lcons rfl (lcons rfl (lcons rfl (lcons rfl (lcons rfl rfl)))))))))))))))
  exact lp691 (n - 0 + 1) 0 (by omega) (Nat.lt_succ_self _) _ _ hP hS _ hl
set_option maxRecDepth 100000 in
set_option maxHeartbeats 8000000 in
theorem lc_over {p : Program} {l : Launch} {e : Env} {s : State} {m : MethodId} {below : List Frame} {meth : Method} {c : Code} {Q : State → Prop} {D : va_G} {ct : Nat → ClassId} {ad : Nat → Nat} {b : Nat} (hx : p.tables.exec = Jvm.exec) (hb : c.code = code) (hml : c.maxLocals = 16) (hown : s.vm.findClass RL = some m.cls) (htg : ∀ w ∈ wB, w.before #[Value.ref b] s = true) (hK : va_K D vwCl (fTys ct) s) (hI : fI 203 ad) (hA0 : ∀ i, i < 203 → lA s (ad i)) (hE : gE (lA s) s s.heap) {O : Nat → va_E} {Z : Nat → Int32} {r hv : Int32} {n e9 i9 k9 kd : Nat} (hJ : LJ ct ad O Z r n e9) (he9 : e9 < 52) (hn22 : 2 ≤ n) (c0 s0 : Nat) (hc0 : c0 ≤ 600104) (hs0 : s0 ≤ 7301314) (kk : ∀ (O' : Nat → va_E) (Z' : Nat → Int32) (r' : Int32) (n' : Nat) (H : Heap) (locs : List Loc) (ls : Array Slot), LJ ct ad O' Z' r' n' (e9 + 1) → fP D 203 ad (pcw O' (lwc ct Z' r')) H → va_S (lA s) s.heap H locs → lv_has ls 16 [(12, .int (nI 1)), (8, .int (hv)), (7, .int (nI e9)), (6, .ref (ad 202)), (5, .ref (ad 201)), (4, .ref (ad 200)), (3, .ref (ad 199)), (2, .ref (ad 198)), (1, .ref (ad 0)), (0, .ref b)] → W p l e room_1 s m #[Value.ref b] below meth c H locs c0 s0 Q (F0 m 1023 ls [])) {H : Heap} {locs : List Loc} {ls : Array Slot} (hP : fP D 203 ad (pcw O (lwc ct Z r)) H) (hS : va_S (lA s) s.heap H locs) (hl : lv_has ls 16 [(12, .int (nI 1)), (11, .int (nI i9)), (10, .int (nI k9)), (9, .int (nI kd)), (8, .int (hv)), (7, .int (nI e9)), (6, .ref (ad 202)), (5, .ref (ad 201)), (4, .ref (ad 200)), (3, .ref (ad 199)), (2, .ref (ad 198)), (1, .ref (ad 0)), (0, .ref b)]) : W p l e room_1 s m #[Value.ref b] below meth c H locs c0 s0 Q (F0 m 778 ls []) := by
  have hJ0 := hJ
  obtain ⟨hOS, hri, hg, htl, hmt, ⟨t3, ht3, hz3⟩, hn2⟩ := hJ0
  have hn10 := hg.1.1
  have hO := hri.1
  have ho := hri.2.1
  obtain ⟨q, eq9⟩ : ∃ z9, loN (hv >>> (nI 11 &&& 31)) 9 = z9 := ⟨_, rfl⟩
  have hq : q < 9 := by have := loN_lt (v := hv >>> (nI 11 &&& 31)) (n := 9) (by omega); omega
  have h01 := (oI_bW hO).2.2 q (by omega)
  obtain ⟨O1, hM1, hOS1⟩ := os_over (l := l) (D := D) (q := q) hOS hri hq
  obtain ⟨fs0, h0⟩ := hOS.h5
  have hgo : lG (r ^^^ ((nI 1) <<< ((nI q) &&& 31))) (upd Z (27 + q) (if Z (27 + q) = 0 then nI 1 else nI 0)) n := lG_over hg (by omega) (rM_flip hg.2.1 (by omega) h01)
  refine lv_iload hx hb dL_law_778 (lv_at hl 4 rfl) ?_
  refine lv_bipush (v := nI 11) hx hb dL_law_780 (by decide) ?_
  refine lv_ishr hx hb dL_law_782 ?_
  refine lv_bipush (v := nI 9) hx hb dL_law_783 (by decide) ?_
  refine nw_Sr (N1 := 5) (nm := (fun z => 198 + z)) (ce1 := lwc ct Z r) (ce1' := lwc ct Z r) (ce' := pcw O (lwc ct Z r)) (As := [.int (hv >>> ((nI 11) &&& 31)), .int (nI 9)]) (rest := []) hx hb hml hown htg hK hI hP hS hA0 hl.1 p203 pinj pcr pcr (fun _ _ _ => rfl) (mL_low l D ct (fun z => ad ((fun z => 198 + z) z)) Z r (hv >>> ((nI 11) &&& 31)) 9 (by omega) (by omega)) cw_L_62 rfl rfl ⟨Nat.le_of_ble_eq_true rfl, Nat.le_of_ble_eq_true rfl⟩ (Nat.le_of_ble_eq_true rfl) dL_law_785 ⟨(show c0 ≤ 600104 by omega), (show s0 ≤ 7301314 by omega)⟩ (fun H locs hP hS => ?_)
  have hlo := @loN_lt (hv >>> ((nI 11) &&& 31)) 9 (by omega)
  rw [eq9]
  refine lv_istore (lv' := [(13, .int (nI q)), (12, .int (nI 1)), (11, .int (nI i9)), (10, .int (nI k9)), (9, .int (nI kd)), (8, .int (hv)), (7, .int (nI e9)), (6, .ref (ad 202)), (5, .ref (ad 201)), (4, .ref (ad 200)), (3, .ref (ad 199)), (2, .ref (ad 198)), (1, .ref (ad 0)), (0, .ref b)]) hx hb dL_law_788 hl (by decide) rfl (fun ls hl => ?_)
  refine lv_aload hx hb dL_law_790 (lv_at hl 8 rfl) ?_
  refine lv_iconst (v := nI 0) hx hb dL_law_792 (by decide) ?_
  refine lv_dup2_11 hx hb dL_law_793 rfl rfl ?_
  refine fr_iald (k := 201) (f := vwR r) hx hb hK hP (by decide) rfl (by omega) (by decide) dL_law_794 ?_
  refine lv_teq vwR_at ?_
  refine lv_iconst (v := nI 1) hx hb dL_law_795 (by decide) ?_
  refine lv_iload hx hb dL_law_796 (lv_at hl 0 rfl) ?_
  refine lv_ishl hx hb dL_law_798 ?_
  refine lv_ixor hx hb dL_law_799 ?_
  refine fr_iast (k := 201) (f := vwR r) hx hb hK hI hP hS hA0 (by decide) rfl (by omega) (by decide) dL_law_800 (pcw5_he (by decide) lhR) (fun H locs hP hS => ?_)
  have hP : fP D 203 ad (pcw O (lwc ct (upd Z (27 + q) (if Z (27 + q) = 0 then nI 1 else nI 0)) (r ^^^ ((nI 1) <<< ((nI q) &&& 31))))) H := by rw [lw_27 (show q < 12 by omega)]; exact hP
  obtain ⟨rn, ern⟩ : ∃ z9, r ^^^ ((nI 1) <<< ((nI q) &&& 31)) = z9 := ⟨_, rfl⟩
  rw [ern] at hP hgo
  refine lv_aload_n hx hb dL_law_801 rfl (lv_at hl 12 rfl) ?_
  refine lv_iload hx hb dL_law_802 (lv_at hl 0 rfl) ?_
  refine nw_Or (ceO := O) (ceO' := O1) (ce' := pcw O1 (lwc ct (upd Z (27 + q) (if Z (27 + q) = 0 then nI 1 else nI 0)) rn)) (As := [.int (nI q)]) (rest := []) hx hb hml hown htg hK hI hP hS hA0 hl.1 (by decide) pcl pcl pch hM1 cw_L_106 h0 rfl rfl ⟨Nat.le_of_ble_eq_true rfl, Nat.le_of_ble_eq_true rfl⟩ (Nat.le_of_ble_eq_true rfl) dL_law_804 ⟨(show c0 ≤ 600104 by omega), (show s0 ≤ 7301314 by omega)⟩ (fun H locs hP hS => ?_)
  refine lv_aload hx hb dL_law_807 (lv_at hl 8 rfl) ?_
  refine lv_iload hx hb dL_law_809 (lv_at hl 0 rfl) ?_
  refine nw_Sr (N1 := 5) (nm := (fun z => 198 + z)) (ce1 := lwc ct (upd Z (27 + q) (if Z (27 + q) = 0 then nI 1 else nI 0)) rn) (ce1' := lwc ct (upd Z (27 + q) (if Z (27 + q) = 0 then nI 1 else nI 0)) rn) (ce' := pcw O1 (lwc ct (upd Z (27 + q) (if Z (27 + q) = 0 then nI 1 else nI 0)) rn)) (As := [.ref (ad 201), .int (nI q)]) (rest := [.int (nI (brk (upd Z (27 + q) (if Z (27 + q) = 0 then nI 1 else nI 0)) q))]) hx hb hml hown htg hK hI hP hS hA0 hl.1 p203 pinj pcr pcr (fun _ _ _ => rfl) (mL_breaker l D ct (fun z => ad ((fun z => 198 + z) z)) (upd Z (27 + q) (if Z (27 + q) = 0 then nI 1 else nI 0)) rn q (by omega) ((hgo).2.1)) cw_L_16 rfl rfl ⟨Nat.le_of_ble_eq_true rfl, Nat.le_of_ble_eq_true rfl⟩ (Nat.le_of_ble_eq_true rfl) dL_law_811 ⟨(show c0 ≤ 600104 by omega), (show s0 ≤ 7301314 by omega)⟩ (fun H locs hP hS => ?_)
  have hbk := @brk_lt (upd Z (27 + q) (if Z (27 + q) = 0 then nI 1 else nI 0)) q (by omega)
  refine lv_icmp_ne (tgt := 821) hx hb dL_law_814 (by decide) (fun h => absurd rfl h) (fun _ => ?_)
  refine lv_iconst (v := nI 1) hx hb dL_law_817 (by decide) ?_
  refine lv_goto (tgt := 822) hx hb dL_law_818 (by decide) ?_
  refine lv_istore (lv' := [(12, .int (nI 1)), (13, .int (nI q)), (11, .int (nI i9)), (10, .int (nI k9)), (9, .int (nI kd)), (8, .int (hv)), (7, .int (nI e9)), (6, .ref (ad 202)), (5, .ref (ad 201)), (4, .ref (ad 200)), (3, .ref (ad 199)), (2, .ref (ad 198)), (1, .ref (ad 0)), (0, .ref b)]) hx hb dL_law_822 hl (by decide) rfl (fun ls hl => ?_)
  refine lv_goto (tgt := 1023) hx hb dL_law_824 (by decide) ?_
  have hl := lv_sub (l' := [(12, .int (nI 1)), (8, .int (hv)), (7, .int (nI e9)), (6, .ref (ad 202)), (5, .ref (ad 201)), (4, .ref (ad 200)), (3, .ref (ad 199)), (2, .ref (ad 198)), (1, .ref (ad 0)), (0, .ref b)]) hl [0, 5, 6, 7, 8, 9, 10, 11, 12, 13] rfl
  exact kk _ _ _ _ _ _ _ (LJ_upd hJ hn22 hOS1 (rI_over hri (by omega) (by split; exact Or.inr rfl; exact Or.inl rfl)) hgo (by omega) (fun _ => ⟨by omega, by omega⟩) (fun _ _ => by omega) (fun _ _ => by omega)) hP hS hl
set_option maxRecDepth 100000 in
set_option maxHeartbeats 8000000 in
theorem lc_pass {p : Program} {l : Launch} {e : Env} {s : State} {m : MethodId} {below : List Frame} {meth : Method} {c : Code} {Q : State → Prop} {D : va_G} {ct : Nat → ClassId} {ad : Nat → Nat} {b : Nat} (hx : p.tables.exec = Jvm.exec) (hb : c.code = code) (hml : c.maxLocals = 16) (hown : s.vm.findClass RL = some m.cls) (htg : ∀ w ∈ wB, w.before #[Value.ref b] s = true) (hK : va_K D vwCl (fTys ct) s) (hI : fI 203 ad) (hA0 : ∀ i, i < 203 → lA s (ad i)) (hE : gE (lA s) s s.heap) {O : Nat → va_E} {Z : Nat → Int32} {r hv : Int32} {n e9 i9 k9 kd : Nat} (hJ : LJ ct ad O Z r n e9) (he9 : e9 < 52) (hn22 : 2 ≤ n) (c0 s0 : Nat) (hc0 : c0 ≤ 600104) (hs0 : s0 ≤ 7301314) (kk : ∀ (O' : Nat → va_E) (Z' : Nat → Int32) (r' : Int32) (n' : Nat) (H : Heap) (locs : List Loc) (ls : Array Slot), LJ ct ad O' Z' r' n' (e9 + 1) → fP D 203 ad (pcw O' (lwc ct Z' r')) H → va_S (lA s) s.heap H locs → lv_has ls 16 [(12, .int (nI 1)), (8, .int (hv)), (7, .int (nI e9)), (6, .ref (ad 202)), (5, .ref (ad 201)), (4, .ref (ad 200)), (3, .ref (ad 199)), (2, .ref (ad 198)), (1, .ref (ad 0)), (0, .ref b)] → W p l e room_1 s m #[Value.ref b] below meth c H locs c0 s0 Q (F0 m 1023 ls [])) {H : Heap} {locs : List Loc} {ls : Array Slot} (hP : fP D 203 ad (pcw O (lwc ct Z r)) H) (hS : va_S (lA s) s.heap H locs) (hl : lv_has ls 16 [(12, .int (nI 1)), (11, .int (nI i9)), (10, .int (nI k9)), (9, .int (nI kd)), (8, .int (hv)), (7, .int (nI e9)), (6, .ref (ad 202)), (5, .ref (ad 201)), (4, .ref (ad 200)), (3, .ref (ad 199)), (2, .ref (ad 198)), (1, .ref (ad 0)), (0, .ref b)]) : W p l e room_1 s m #[Value.ref b] below meth c H locs c0 s0 Q (F0 m 940 ls []) := by
  have hJ0 := hJ
  obtain ⟨hOS, hri, hg, htl, hmt, ⟨t3, ht3, hz3⟩, hn2⟩ := hJ0
  have hn10 := hg.1.1
  have hO := hri.1
  have ho := hri.2.1
  obtain ⟨m9, hm9⟩ : ∃ z9, (if loN (hv >>> (nI 24 &&& 31)) 3 = 0 then 48 else 8) = z9 := ⟨_, rfl⟩
  have hm9v : m9 = 48 ∨ m9 = 8 := by rw [← hm9]; split; exact Or.inl rfl; exact Or.inr rfl
  obtain ⟨q, eq9⟩ : ∃ z9, loN (hv >>> (nI 5 &&& 31)) m9 = z9 := ⟨_, rfl⟩
  have hq : q < 48 := by have := loN_lt (v := hv >>> (nI 5 &&& 31)) (n := m9) (by omega); omega
  obtain ⟨tm, etm⟩ : ∃ z9, 1 + q = z9 := ⟨_, rfl⟩
  obtain ⟨h9, hh9, hb9⟩ := hri.2.2.2
  have hcnd : Z 3 + nI tm ≤ nI 9999 := by rw [hz3, nI_add, nI_leI (by omega) (by omega)]; omega
  obtain ⟨O1, hM1, hOS1⟩ := os_pass (l := l) (D := D) (tm := tm) hOS hri (by omega) (by omega) hcnd
  obtain ⟨fs0, h0⟩ := hOS.h5
  have hYs : ∀ y, y ≤ tm → oI (hsZ Z n y) n ∧ hOn (hsZ Z n y) ∧ lG r (hsZ Z n y) n := fun y hy => lG_hs hg hO ho hb9 (by omega)
  refine lv_iconst (v := nI 1) hx hb dL_law_940 (by decide) ?_
  refine lv_iload hx hb dL_law_941 (lv_at hl 4 rfl) ?_
  refine lv_iconst (v := nI 5) hx hb dL_law_943 (by decide) ?_
  refine lv_ishr hx hb dL_law_944 ?_
  refine lv_iload hx hb dL_law_945 (lv_at hl 4 rfl) ?_
  refine lv_bipush (v := nI 24) hx hb dL_law_947 (by decide) ?_
  refine lv_ishr hx hb dL_law_949 ?_
  refine lv_iconst (v := nI 3) hx hb dL_law_950 (by decide) ?_
  refine nw_Sr (N1 := 5) (nm := (fun z => 198 + z)) (ce1 := lwc ct Z r) (ce1' := lwc ct Z r) (ce' := pcw O (lwc ct Z r)) (As := [.int (hv >>> ((nI 24) &&& 31)), .int (nI 3)]) (rest := [.int (hv >>> ((nI 5) &&& 31)), .int (nI 1)]) hx hb hml hown htg hK hI hP hS hA0 hl.1 p203 pinj pcr pcr (fun _ _ _ => rfl) (mL_low l D ct (fun z => ad ((fun z => 198 + z) z)) Z r (hv >>> ((nI 24) &&& 31)) 3 (by omega) (by omega)) cw_L_62 rfl rfl ⟨Nat.le_of_ble_eq_true rfl, Nat.le_of_ble_eq_true rfl⟩ (Nat.le_of_ble_eq_true rfl) dL_law_951 ⟨(show c0 ≤ 600104 by omega), (show s0 ≤ 7301314 by omega)⟩ (fun H locs hP hS => ?_)
  have hlo := @loN_lt (hv >>> ((nI 24) &&& 31)) 3 (by omega)
  suffices hJ964 : W p l e room_1 s m #[Value.ref b] below meth c H locs (c0) (s0) Q (F0 m 964 ls [.int (nI m9), .int (hv >>> ((nI 5) &&& 31)), .int (nI 1)]) by
    refine lv_ifneN (tgt := 962) hx hb (by omega) dL_law_954 (by decide) (fun c954 => ?_) (fun c954 => ?_)
    · refine lv_bipush (v := nI 8) hx hb dL_law_962 (by decide) ?_
      exact lv_tveq (show Value.int (nI 8) = Value.int (nI m9) from by exact congrArg Value.int (congrArg nI ((if_neg c954).symm.trans hm9))) hJ964
    · refine lv_bipush (v := nI 48) hx hb dL_law_957 (by decide) ?_
      refine lv_goto (tgt := 964) hx hb dL_law_959 (by decide) ?_
      exact lv_tveq (show Value.int (nI 48) = Value.int (nI m9) from by exact congrArg Value.int (congrArg nI ((if_pos c954).symm.trans hm9))) hJ964
  refine nw_Sr (N1 := 5) (nm := (fun z => 198 + z)) (ce1 := lwc ct Z r) (ce1' := lwc ct Z r) (ce' := pcw O (lwc ct Z r)) (As := [.int (hv >>> ((nI 5) &&& 31)), .int (nI m9)]) (rest := [.int (nI 1)]) hx hb hml hown htg hK hI hP hS hA0 hl.1 p203 pinj pcr pcr (fun _ _ _ => rfl) (mL_low l D ct (fun z => ad ((fun z => 198 + z) z)) Z r (hv >>> ((nI 5) &&& 31)) m9 (by omega) (by omega)) cw_L_62 rfl rfl ⟨Nat.le_of_ble_eq_true rfl, Nat.le_of_ble_eq_true rfl⟩ (Nat.le_of_ble_eq_true rfl) dL_law_964 ⟨(show c0 ≤ 600104 by omega), (show s0 ≤ 7301314 by omega)⟩ (fun H locs hP hS => ?_)
  have hlo := @loN_lt (hv >>> ((nI 5) &&& 31)) m9 (by omega)
  rw [eq9]
  refine lv_iaddN hx hb dL_law_967 ?_
  rw [etm]
  refine lv_istore (lv' := [(13, .int (nI tm)), (12, .int (nI 1)), (11, .int (nI i9)), (10, .int (nI k9)), (9, .int (nI kd)), (8, .int (hv)), (7, .int (nI e9)), (6, .ref (ad 202)), (5, .ref (ad 201)), (4, .ref (ad 200)), (3, .ref (ad 199)), (2, .ref (ad 198)), (1, .ref (ad 0)), (0, .ref b)]) hx hb dL_law_968 hl (by decide) rfl (fun ls hl => ?_)
  refine lv_iconst (v := nI 0) hx hb dL_law_970 (by decide) ?_
  refine lv_istore (lv' := [(14, .int (nI 0)), (13, .int (nI tm)), (12, .int (nI 1)), (11, .int (nI i9)), (10, .int (nI k9)), (9, .int (nI kd)), (8, .int (hv)), (7, .int (nI e9)), (6, .ref (ad 202)), (5, .ref (ad 201)), (4, .ref (ad 200)), (3, .ref (ad 199)), (2, .ref (ad 198)), (1, .ref (ad 0)), (0, .ref b)]) hx hb dL_law_971 hl (by decide) rfl (fun ls hl => ?_)
  refine lv_iconst (v := nI 0) hx hb dL_law_973 (by decide) ?_
  refine lv_istore (lv' := [(15, .int (nI 0)), (14, .int (nI 0)), (13, .int (nI tm)), (12, .int (nI 1)), (11, .int (nI i9)), (10, .int (nI k9)), (9, .int (nI kd)), (8, .int (hv)), (7, .int (nI e9)), (6, .ref (ad 202)), (5, .ref (ad 201)), (4, .ref (ad 200)), (3, .ref (ad 199)), (2, .ref (ad 198)), (1, .ref (ad 0)), (0, .ref b)]) hx hb dL_law_974 hl (by decide) rfl (fun ls hl => ?_)
  have lp976 : ∀ (fu976 : Nat) (y : Nat), y ≤ tm → tm - y < fu976 → ∀ (H : Heap) (locs : List Loc), fP D 203 ad (pcw O (lwc ct (hsZ Z n y) r)) H → va_S (lA s) s.heap H locs → ∀ (ls : Array Slot), lv_has ls 16 [(15, .int (nI y)), (14, .int (hsT Z n y)), (13, .int (nI tm)), (12, .int (nI 1)), (11, .int (nI i9)), (10, .int (nI k9)), (9, .int (nI kd)), (8, .int (hv)), (7, .int (nI e9)), (6, .ref (ad 202)), (5, .ref (ad 201)), (4, .ref (ad 200)), (3, .ref (ad 199)), (2, .ref (ad 198)), (1, .ref (ad 0)), (0, .ref b)] → W p l e room_1 s m #[Value.ref b] below meth c H locs (c0) (s0) Q (F0 m 976 ls []) := by
    intro fu976
    induction fu976 with
    | zero => intro y hy hfu976; exact absurd hfu976 (Nat.not_lt_zero _)
    | succ fu976 ih976 =>
      intro y hy hfu976 H locs hP hS ls hl
      refine lv_iload hx hb dL_law_976 (lv_at hl 0 rfl) ?_
      refine lv_iload hx hb dL_law_978 (lv_at hl 2 rfl) ?_
      refine lv_icmp_geN (tgt := 1005) hx hb (by omega) (by omega) dL_law_980 (by decide) (fun c980 => ?_) (fun c980 => ?_)
      · have e9 : tm = y := by omega
        subst e9
        refine lv_aload_n hx hb dL_law_1005 rfl (lv_at hl 14 rfl) ?_
        refine lv_iload hx hb dL_law_1006 (lv_at hl 2 rfl) ?_
        refine nw_Or (ceO := O) (ceO' := O1) (ce' := pcw O1 (lwc ct (hsZ Z n tm) r)) (As := [.int (nI tm)]) (rest := []) hx hb hml hown htg hK hI hP hS hA0 hl.1 (by decide) pcl pcl pch hM1 cw_L_115 h0 rfl rfl ⟨Nat.le_of_ble_eq_true rfl, Nat.le_of_ble_eq_true rfl⟩ (Nat.le_of_ble_eq_true rfl) dL_law_1008 ⟨(show c0 ≤ 600104 by omega), (show s0 ≤ 7301314 by omega)⟩ (fun H locs hP hS => ?_)
        refine lv_iload hx hb dL_law_1011 (lv_at hl 1 rfl) ?_
        refine lv_icmp_ne (tgt := 1020) hx hb dL_law_1013 (by decide) (fun h => absurd rfl h) (fun _ => ?_)
        refine lv_iconst (v := nI 1) hx hb dL_law_1016 (by decide) ?_
        refine lv_goto (tgt := 1021) hx hb dL_law_1017 (by decide) ?_
        refine lv_istore (lv' := [(12, .int (nI 1)), (15, .int (nI tm)), (14, .int (hsT Z n tm)), (13, .int (nI tm)), (11, .int (nI i9)), (10, .int (nI k9)), (9, .int (nI kd)), (8, .int (hv)), (7, .int (nI e9)), (6, .ref (ad 202)), (5, .ref (ad 201)), (4, .ref (ad 200)), (3, .ref (ad 199)), (2, .ref (ad 198)), (1, .ref (ad 0)), (0, .ref b)]) hx hb dL_law_1021 hl (by decide) rfl (fun ls hl => ?_)
        have hl := lv_sub (l' := [(12, .int (nI 1)), (8, .int (hv)), (7, .int (nI e9)), (6, .ref (ad 202)), (5, .ref (ad 201)), (4, .ref (ad 200)), (3, .ref (ad 199)), (2, .ref (ad 198)), (1, .ref (ad 0)), (0, .ref b)]) hl [0, 7, 8, 9, 10, 11, 12, 13, 14, 15] rfl
        exact kk _ _ _ _ _ _ _ (LJ_pass hJ hn22 he9 (by omega) hOS1 (rI_hs hri (by omega) hcnd) (hYs tm (Nat.le_refl tm)).2.2) hP hS hl
      · refine lv_iload hx hb dL_law_983 (lv_at hl 1 rfl) ?_
        refine lv_aload_n hx hb dL_law_985 rfl (lv_at hl 13 rfl) ?_
        refine lv_aload_n hx hb dL_law_986 rfl (lv_at hl 12 rfl) ?_
        refine lv_aload hx hb dL_law_987 (lv_at hl 11 rfl) ?_
        refine lv_aload hx hb dL_law_989 (lv_at hl 10 rfl) ?_
        refine lv_aload hx hb dL_law_991 (lv_at hl 9 rfl) ?_
        refine nw_Sr (N1 := 5) (nm := (fun z => 198 + z)) (ce1 := lwc ct (hsZ Z n y) r) (ce1' := lwc ct (hrZ (hsZ Z n y) n) r) (ce' := pcw O (lwc ct (hrZ (hsZ Z n y) n) r)) (As := [.ref (ad 198), .ref (ad 199), .ref (ad 200), .ref (ad 201), .ref (ad 202)]) (rest := [.int (hsT Z n y)]) hx hb hml hown htg hK hI hP hS hA0 hl.1 p203 pinj pcr pcr pho (mL_hour l D ct (fun z => ad ((fun z => 198 + z) z)) (hsZ Z n y) r n ((hYs y (by omega)).1) ((hYs y (by omega)).2.1) ((hYs y (by omega)).2.2)) cw_L_54 rfl rfl ⟨Nat.le_of_ble_eq_true rfl, Nat.le_of_ble_eq_true rfl⟩ (Nat.le_of_ble_eq_true rfl) dL_law_993 ⟨(show c0 ≤ 600104 by omega), (show s0 ≤ 7301314 by omega)⟩ (fun H locs hP hS => ?_)
        refine lv_iadd hx hb dL_law_996 ?_
        refine lv_istore (lv' := [(14, .int ((hsT Z n y) + (hrT (hsZ Z n y) n))), (15, .int (nI y)), (13, .int (nI tm)), (12, .int (nI 1)), (11, .int (nI i9)), (10, .int (nI k9)), (9, .int (nI kd)), (8, .int (hv)), (7, .int (nI e9)), (6, .ref (ad 202)), (5, .ref (ad 201)), (4, .ref (ad 200)), (3, .ref (ad 199)), (2, .ref (ad 198)), (1, .ref (ad 0)), (0, .ref b)]) hx hb dL_law_997 hl (by decide) rfl (fun ls hl => ?_)
        refine lv_iinc (v := nI (y + 1)) (lv' := [(15, .int (nI (y + 1))), (14, .int ((hsT Z n y) + (hrT (hsZ Z n y) n))), (13, .int (nI tm)), (12, .int (nI 1)), (11, .int (nI i9)), (10, .int (nI k9)), (9, .int (nI kd)), (8, .int (hv)), (7, .int (nI e9)), (6, .ref (ad 202)), (5, .ref (ad 201)), (4, .ref (ad 200)), (3, .ref (ad 199)), (2, .ref (ad 198)), (1, .ref (ad 0)), (0, .ref b)]) hx hb dL_law_999 hl (k := 1) rfl (nI_add y 1) (by decide) rfl (fun ls hl => ?_)
        refine lv_goto (tgt := 976) hx hb dL_law_1002 (by decide) ?_
        have hl := lv_sub (l' := [(15, .int (nI (y + 1))), (14, .int ((hsT Z n y) + (hrT (hsZ Z n y) n))), (13, .int (nI tm)), (12, .int (nI 1)), (11, .int (nI i9)), (10, .int (nI k9)), (9, .int (nI kd)), (8, .int (hv)), (7, .int (nI e9)), (6, .ref (ad 202)), (5, .ref (ad 201)), (4, .ref (ad 200)), (3, .ref (ad 199)), (2, .ref (ad 198)), (1, .ref (ad 0)), (0, .ref b)]) hl [0, 1, 2, 3, 4, 5, 6, 7, 8, 9, 10, 11, 12, 13, 14, 15] rfl
        have le14 : Value.int ((hsT Z n y) + (hrT (hsZ Z n y) n)) = Value.int (hsT Z n (y + 1)) := by rfl
        have hl := lv_hasE hl (lcons rfl (lcons le14 (lcons rfl (lcons rfl (lcons rfl (lcons rfl (lcons rfl (lcons rfl (lcons rfl (lcons rfl (lcons rfl (lcons rfl (lcons rfl (lcons rfl (lcons rfl (lcons rfl rfl))))))))))))))))
        have hP := fP.eqc (congrArg (fun v9 => pcw O (lwc ct v9 r)) (show (hrZ (hsZ Z n y) n) = (hsZ Z n (y + 1)) from by rfl)) hP
        exact ih976 (y + 1) (by omega) (by omega) _ _ hP hS _ hl
  have hl := lv_sub (l' := [(15, .int (nI 0)), (14, .int (nI 0)), (13, .int (nI tm)), (12, .int (nI 1)), (11, .int (nI i9)), (10, .int (nI k9)), (9, .int (nI kd)), (8, .int (hv)), (7, .int (nI e9)), (6, .ref (ad 202)), (5, .ref (ad 201)), (4, .ref (ad 200)), (3, .ref (ad 199)), (2, .ref (ad 198)), (1, .ref (ad 0)), (0, .ref b)]) hl [0, 1, 2, 3, 4, 5, 6, 7, 8, 9, 10, 11, 12, 13, 14, 15] rfl
  have le14 : Value.int (nI 0) = Value.int (hsT Z n 0) := by rfl
  have hl := lv_hasE hl (lcons rfl (lcons le14 (lcons rfl (lcons rfl (lcons rfl (lcons rfl (lcons rfl (lcons rfl (lcons rfl (lcons rfl (lcons rfl (lcons rfl (lcons rfl (lcons rfl (lcons rfl (lcons rfl rfl))))))))))))))))
  have hP := fP.eqc (congrArg (fun v9 => pcw O (lwc ct v9 r)) (show Z = (hsZ Z n 0) from by rfl)) hP
  exact lp976 (tm - 0 + 1) 0 (by omega) (Nat.lt_succ_self _) _ _ hP hS _ hl
