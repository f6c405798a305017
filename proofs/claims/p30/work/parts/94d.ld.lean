/-! THE LAW: a stall comes, a setting; behind each choice all told anew; its loop -/
theorem come_law {Z : Nat → Int32} {n : Nat} {a0 a1 a2 a3 : Int32} (h : tl Z n) (hn : n < 10) : upd (upd (upd (upd (upd (upd Z (39 + 8 * n + 0) a0) (39 + 8 * n + 1) a1) (39 + 8 * n + 2) a2) (39 + 8 * n + 3) a3) (39 + 8 * n + 4) (-1)) 4 (nI (n + 1)) = comeZ Z n a0 a1 a2 a3 := by
  obtain ⟨t5, t6, t7⟩ := h n (Nat.le_refl n) hn
  funext z
  unfold comeZ
  by_cases e4 : z = 4
  · subst e4; rw [upd_s, upd_s]
  · rw [upd_n e4, upd_n e4]
    by_cases e7 : z = 39 + 8 * n + 7
    · subst e7; rw [upd_s, upd_n (by omega), upd_n (by omega), upd_n (by omega), upd_n (by omega), upd_n (by omega), t7]; rfl
    · rw [upd_n e7]
      by_cases e6 : z = 39 + 8 * n + 6
      · subst e6; rw [upd_s, upd_n (by omega), upd_n (by omega), upd_n (by omega), upd_n (by omega), upd_n (by omega), t6]; rfl
      · rw [upd_n e6]
        by_cases e5 : z = 39 + 8 * n + 5
        · subst e5; rw [upd_s, upd_n (by omega), upd_n (by omega), upd_n (by omega), upd_n (by omega), upd_n (by omega), t5]; rfl
        · rw [upd_n e5]
theorem LJ_come {ct : Nat → ClassId} {ad : Nat → Nat} {O O' : Nat → va_E} {Z : Nat → Int32} {r : Int32} {n e a0 a1 a2 a3 : Nat} (h : LJ ct ad O Z r n e) (hn : n < 10) (h1 : 1 ≤ a0) (h2 : a0 ≤ 500) (h3 : a1 < 24) (h4 : a2 < 24) (h5 : 1 ≤ a3) (h6 : a3 ≤ 9) (hO : OS ct ad O' (comeZ Z n (nI a0) (nI a1) (nI a2) (nI a3)) (n + 1)) : LJ ct ad O' (comeZ Z n (nI a0) (nI a1) (nI a2) (nI a3)) r (n + 1) (e + 1) := by
  obtain ⟨-, hr, hg, ht, hs, ⟨t, t1, t2⟩, hn2⟩ := h
  have hr' := rI_come (a0 := nI a0) (a1 := nI a1) (a2 := nI a2) (a3 := nI a3) hr hn (inB_v9 h1 h2 (by omega)) (inB_v9 h5 h6 (by omega))
  obtain ⟨n4, n0, n1, n2, n3, n5, n6, n7, n8⟩ := come_new (Z := Z) (n := n) (a0 := nI a0) (a1 := nI a1) (a2 := nI a2) (a3 := nI a3)
  have hat : ∀ z, z < 39 + 8 * n → z ≠ 4 → comeZ Z n (nI a0) (nI a1) (nI a2) (nI a3) z = Z z := fun z h1 h2 => come_at h1 h2
  refine ⟨hO, hr', ⟨oI_zW hr'.1, fun q hq => by rw [hat _ (by omega) (by omega)]; exact hg.2.1 q hq, by rw [hat _ (by omega) (by omega)]; exact hg.2.2.1, fun k hk => ?_⟩, fun k hk1 hk2 => ?_, ?_, ⟨t, by omega, by rw [hat _ (by omega) (by omega)]; exact t2⟩, by omega⟩
  · by_cases c : k = n
    · subst c; exact ⟨⟨a1, h3, n1⟩, a2, h4, n2⟩
    · rw [hat _ (by omega) (by omega), hat _ (by omega) (by omega)]; exact hg.2.2.2 k (by omega)
  · have e1 : ∀ z, 39 + 8 * n + 8 ≤ z → comeZ Z n (nI a0) (nI a1) (nI a2) (nI a3) z = Z z := fun z hz => by
      unfold comeZ
      rw [upd_n (by omega), upd_n (by omega), upd_n (by omega), upd_n (by omega), upd_n (by omega), upd_n (by omega), upd_n (by omega), upd_n (by omega), upd_n (by omega)]
    rw [e1 _ (by omega), e1 _ (by omega), e1 _ (by omega)]; exact ht k (by omega) hk2
  · show sumS (comeZ Z n (nI a0) (nI a1) (nI a2) (nI a3)) 6 n + comeZ Z n (nI a0) (nI a1) (nI a2) (nI a3) (39 + 8 * n + 6) = _
    rw [n7, nI_0, Int32.add_zero, sumS_congr (by omega) n (fun k hk => hat _ (by omega) (by omega)), sumB_congr 4 (fun b hb => hat _ (by omega) (by omega))]
    exact hs
theorem set_lo {w v : Nat} (h : (w = 0 ∧ 1 ≤ v ∧ v ≤ 9) ∨ (w = 1 ∧ v ≤ 1) ∨ (w = 2 ∧ 1 ≤ v ∧ v ≤ 99)) : ¬ nI v < leV w := by
  rcases h with ⟨rfl, h1, h2⟩ | ⟨rfl, h2⟩ | ⟨rfl, h1, h2⟩
  · show ¬ nI v < nI 1; exact nI_nlt h1 (by omega)
  · show ¬ nI v < nI 0; exact nI_nlt (by omega) (by omega)
  · show ¬ nI v < nI 1; exact nI_nlt h1 (by omega)
theorem set_hi {w v : Nat} (h : (w = 0 ∧ 1 ≤ v ∧ v ≤ 9) ∨ (w = 1 ∧ v ≤ 1) ∨ (w = 2 ∧ 1 ≤ v ∧ v ≤ 99)) : ¬ moV w < nI v := by
  rcases h with ⟨rfl, h1, h2⟩ | ⟨rfl, h2⟩ | ⟨rfl, h1, h2⟩
  · show ¬ nI 9 < nI v; exact nI_nlt h2 (by omega)
  · show ¬ nI 1 < nI v; exact nI_nlt h2 (by omega)
  · show ¬ nI 99 < nI v; exact nI_nlt h2 (by omega)
theorem set_0 {w v : Nat} (h : (w = 0 ∧ 1 ≤ v ∧ v ≤ 9) ∨ (w = 1 ∧ v ≤ 1) ∨ (w = 2 ∧ 1 ≤ v ∧ v ≤ 99)) : w = 0 → inB (nI v) (nI 1) (nI 9) = true := fun e => inB_v9 (by omega) (by omega) (by omega)
theorem set_1 {w v : Nat} (h : (w = 0 ∧ 1 ≤ v ∧ v ≤ 9) ∨ (w = 1 ∧ v ≤ 1) ∨ (w = 2 ∧ 1 ≤ v ∧ v ≤ 99)) : w = 1 → nI v = 0 ∨ nI v = 1 := fun e => by
  rcases (show v = 0 ∨ v = 1 by omega) with rfl | rfl
  · exact Or.inl rfl
  · exact Or.inr rfl
set_option maxRecDepth 100000 in
set_option maxHeartbeats 8000000 in
theorem lc_add {p : Program} {l : Launch} {e : Env} {s : State} {m : MethodId} {below : List Frame} {meth : Method} {c : Code} {Q : State → Prop} {D : va_G} {ct : Nat → ClassId} {ad : Nat → Nat} {b : Nat} (hx : p.tables.exec = Jvm.exec) (hb : c.code = code) (hml : c.maxLocals = 16) (hown : s.vm.findClass RL = some m.cls) (htg : ∀ w ∈ wB, w.before #[Value.ref b] s = true) (hK : va_K D vwCl (fTys ct) s) (hI : fI 203 ad) (hA0 : ∀ i, i < 203 → lA s (ad i)) (hE : gE (lA s) s s.heap) {O : Nat → va_E} {Z : Nat → Int32} {r hv : Int32} {n e9 i9 k9 kd : Nat} (hJ : LJ ct ad O Z r n e9) (he9 : e9 < 52) (hn9 : n < 10) (c0 s0 : Nat) (hc0 : c0 ≤ 600104) (hs0 : s0 ≤ 7301314) (kk : ∀ (O' : Nat → va_E) (Z' : Nat → Int32) (r' : Int32) (n' : Nat) (H : Heap) (locs : List Loc) (ls : Array Slot), LJ ct ad O' Z' r' n' (e9 + 1) → fP D 203 ad (pcw O' (lwc ct Z' r')) H → va_S (lA s) s.heap H locs → lv_has ls 16 [(12, .int (nI 1)), (8, .int (hv)), (7, .int (nI e9)), (6, .ref (ad 202)), (5, .ref (ad 201)), (4, .ref (ad 200)), (3, .ref (ad 199)), (2, .ref (ad 198)), (1, .ref (ad 0)), (0, .ref b)] → W p l e room_1 s m #[Value.ref b] below meth c H locs c0 s0 Q (F0 m 1023 ls [])) {H : Heap} {locs : List Loc} {ls : Array Slot} (hP : fP D 203 ad (pcw O (lwc ct Z r)) H) (hS : va_S (lA s) s.heap H locs) (hl : lv_has ls 16 [(12, .int (nI 1)), (11, .int (nI i9)), (10, .int (nI k9)), (9, .int (nI kd)), (8, .int (hv)), (7, .int (nI e9)), (6, .ref (ad 202)), (5, .ref (ad 201)), (4, .ref (ad 200)), (3, .ref (ad 199)), (2, .ref (ad 198)), (1, .ref (ad 0)), (0, .ref b)]) : W p l e room_1 s m #[Value.ref b] below meth c H locs c0 s0 Q (F0 m 168 ls []) := by
  have hJ0 := hJ
  obtain ⟨hOS, hri, hg, htl, hmt, ⟨t3, ht3, hz3⟩, hn2⟩ := hJ0
  have hn10 := hg.1.1
  have hO := hri.1
  have ho := hri.2.1
  obtain ⟨m9, hm9⟩ : ∃ z9, (if loN (hv >>> (nI 24 &&& 31)) 2 = 0 then 500 else 150) = z9 := ⟨_, rfl⟩
  have hm9v : m9 = 500 ∨ m9 = 150 := by rw [← hm9]; split; exact Or.inl rfl; exact Or.inr rfl
  obtain ⟨q1, eq1⟩ : ∃ z9, loN (hv >>> (nI 5 &&& 31)) m9 = z9 := ⟨_, rfl⟩
  have hq1 : q1 < 500 := by have := loN_lt (v := hv >>> (nI 5 &&& 31)) (n := m9) (by omega); omega
  obtain ⟨q2, eq2⟩ : ∃ z9, loN (hv >>> (nI 14 &&& 31)) 24 = z9 := ⟨_, rfl⟩
  have hq2 : q2 < 24 := by rw [← eq2]; exact loN_lt (by omega)
  obtain ⟨q3, eq3⟩ : ∃ z9, loN (hv >>> (nI 18 &&& 31)) 24 = z9 := ⟨_, rfl⟩
  have hq3 : q3 < 24 := by rw [← eq3]; exact loN_lt (by omega)
  obtain ⟨q4, eq4⟩ : ∃ z9, loN (hv >>> (nI 22 &&& 31)) 9 = z9 := ⟨_, rfl⟩
  have hq4 : q4 < 9 := by rw [← eq4]; exact loN_lt (by omega)
  obtain ⟨O1, hM1, hOS1⟩ := os_stall (l := l) (D := D) (a0 := 1 + q1) (a1 := q2) (a2 := q3) (a3 := 1 + q4) hOS hri hn9 (by omega) (by omega) (by omega) (by omega) (by omega) (by omega)
  obtain ⟨fs0, h0⟩ := hOS.h5
  refine lv_aload hx hb dL_law_168 (lv_at hl 6 rfl) ?_
  refine lv_iconst (v := nI 4) hx hb dL_law_170 (by decide) ?_
  refine fr_iald (k := 202) (f := vwT Z) hx hb hK hP (by decide) rfl (by omega) (by decide) dL_law_171 ?_
  refine lv_teq (vwT_at (by omega)) ?_
  refine lv_teq (hg).1.2.1 ?_
  refine lv_istore (lv' := [(13, .int (nI n)), (12, .int (nI 1)), (11, .int (nI i9)), (10, .int (nI k9)), (9, .int (nI kd)), (8, .int (hv)), (7, .int (nI e9)), (6, .ref (ad 202)), (5, .ref (ad 201)), (4, .ref (ad 200)), (3, .ref (ad 199)), (2, .ref (ad 198)), (1, .ref (ad 0)), (0, .ref b)]) hx hb dL_law_172 hl (by decide) rfl (fun ls hl => ?_)
  refine lv_aload_n hx hb dL_law_174 rfl (lv_at hl 11 rfl) ?_
  refine lv_bipush (v := nI 6) hx hb dL_law_175 (by decide) ?_
  refine lv_iload hx hb dL_law_177 (lv_at hl 0 rfl) ?_
  refine lv_imulN hx hb dL_law_179 ?_
  refine lv_iconst (v := nI 1) hx hb dL_law_180 (by decide) ?_
  refine lv_iload hx hb dL_law_181 (lv_at hl 5 rfl) ?_
  refine lv_iconst (v := nI 5) hx hb dL_law_183 (by decide) ?_
  refine lv_ishr hx hb dL_law_184 ?_
  refine lv_iload hx hb dL_law_185 (lv_at hl 5 rfl) ?_
  refine lv_bipush (v := nI 24) hx hb dL_law_187 (by decide) ?_
  refine lv_ishr hx hb dL_law_189 ?_
  refine lv_iconst (v := nI 2) hx hb dL_law_190 (by decide) ?_
  refine nw_Sr (N1 := 5) (nm := (fun z => 198 + z)) (ce1 := lwc ct Z r) (ce1' := lwc ct Z r) (ce' := pcw O (lwc ct Z r)) (As := [.int (hv >>> ((nI 24) &&& 31)), .int (nI 2)]) (rest := [.int (hv >>> ((nI 5) &&& 31)), .int (nI 1), .int (nI (6 * n)), .ref (ad 198)]) hx hb hml hown htg hK hI hP hS hA0 hl.1 p203 pinj pcr pcr (fun _ _ _ => rfl) (mL_low l D ct (fun z => ad ((fun z => 198 + z) z)) Z r (hv >>> ((nI 24) &&& 31)) 2 (by omega) (by omega)) cw_L_62 rfl rfl ⟨Nat.le_of_ble_eq_true rfl, Nat.le_of_ble_eq_true rfl⟩ (Nat.le_of_ble_eq_true rfl) dL_law_191 ⟨(show c0 ≤ 600104 by omega), (show s0 ≤ 7301314 by omega)⟩ (fun H locs hP hS => ?_)
  have hlo := @loN_lt (hv >>> ((nI 24) &&& 31)) 2 (by omega)
  suffices hJ206 : W p l e room_1 s m #[Value.ref b] below meth c H locs (c0) (s0) Q (F0 m 206 ls [.int (nI m9), .int (hv >>> ((nI 5) &&& 31)), .int (nI 1), .int (nI (6 * n)), .ref (ad 198)]) by
    refine lv_ifneN (tgt := 203) hx hb (by omega) dL_law_194 (by decide) (fun c194 => ?_) (fun c194 => ?_)
    · refine lv_sipush (v := nI 150) hx hb dL_law_203 (by decide) ?_
      exact lv_tveq (show Value.int (nI 150) = Value.int (nI m9) from by exact congrArg Value.int (congrArg nI ((if_neg c194).symm.trans hm9))) hJ206
    · refine lv_sipush (v := nI 500) hx hb dL_law_197 (by decide) ?_
      refine lv_goto (tgt := 206) hx hb dL_law_200 (by decide) ?_
      exact lv_tveq (show Value.int (nI 500) = Value.int (nI m9) from by exact congrArg Value.int (congrArg nI ((if_pos c194).symm.trans hm9))) hJ206
  refine nw_Sr (N1 := 5) (nm := (fun z => 198 + z)) (ce1 := lwc ct Z r) (ce1' := lwc ct Z r) (ce' := pcw O (lwc ct Z r)) (As := [.int (hv >>> ((nI 5) &&& 31)), .int (nI m9)]) (rest := [.int (nI 1), .int (nI (6 * n)), .ref (ad 198)]) hx hb hml hown htg hK hI hP hS hA0 hl.1 p203 pinj pcr pcr (fun _ _ _ => rfl) (mL_low l D ct (fun z => ad ((fun z => 198 + z) z)) Z r (hv >>> ((nI 5) &&& 31)) m9 (by omega) (by omega)) cw_L_62 rfl rfl ⟨Nat.le_of_ble_eq_true rfl, Nat.le_of_ble_eq_true rfl⟩ (Nat.le_of_ble_eq_true rfl) dL_law_206 ⟨(show c0 ≤ 600104 by omega), (show s0 ≤ 7301314 by omega)⟩ (fun H locs hP hS => ?_)
  have hlo := @loN_lt (hv >>> ((nI 5) &&& 31)) m9 (by omega)
  rw [eq1]
  refine lv_iaddN hx hb dL_law_209 ?_
  refine fr_iast (k := 198) (f := vwA Z) hx hb hK hI hP hS hA0 (by decide) rfl (by omega) (by decide) dL_law_210 (pcw5_he (by decide) (lhA0 (by omega))) (fun H locs hP hS => ?_)
  refine lv_aload_n hx hb dL_law_211 rfl (lv_at hl 11 rfl) ?_
  refine lv_bipush (v := nI 6) hx hb dL_law_212 (by decide) ?_
  refine lv_iload hx hb dL_law_214 (lv_at hl 0 rfl) ?_
  refine lv_imulN hx hb dL_law_216 ?_
  refine lv_iconst (v := nI 1) hx hb dL_law_217 (by decide) ?_
  refine lv_iaddN hx hb dL_law_218 ?_
  refine lv_iload hx hb dL_law_219 (lv_at hl 5 rfl) ?_
  refine lv_bipush (v := nI 14) hx hb dL_law_221 (by decide) ?_
  refine lv_ishr hx hb dL_law_223 ?_
  refine lv_bipush (v := nI 24) hx hb dL_law_224 (by decide) ?_
  refine nw_Sr (N1 := 5) (nm := (fun z => 198 + z)) (ce1 := lwc ct (upd Z (39 + 8 * n + 0) (nI (1 + q1))) r) (ce1' := lwc ct (upd Z (39 + 8 * n + 0) (nI (1 + q1))) r) (ce' := pcw O (lwc ct (upd Z (39 + 8 * n + 0) (nI (1 + q1))) r)) (As := [.int (hv >>> ((nI 14) &&& 31)), .int (nI 24)]) (rest := [.int (nI (6 * n + 1)), .ref (ad 198)]) hx hb hml hown htg hK hI hP hS hA0 hl.1 p203 pinj pcr pcr (fun _ _ _ => rfl) (mL_low l D ct (fun z => ad ((fun z => 198 + z) z)) (upd Z (39 + 8 * n + 0) (nI (1 + q1))) r (hv >>> ((nI 14) &&& 31)) 24 (by omega) (by omega)) cw_L_62 rfl rfl ⟨Nat.le_of_ble_eq_true rfl, Nat.le_of_ble_eq_true rfl⟩ (Nat.le_of_ble_eq_true rfl) dL_law_226 ⟨(show c0 ≤ 600104 by omega), (show s0 ≤ 7301314 by omega)⟩ (fun H locs hP hS => ?_)
  have hlo := @loN_lt (hv >>> ((nI 14) &&& 31)) 24 (by omega)
  rw [eq2]
  refine fr_iast (k := 198) (f := vwA (upd Z (39 + 8 * n + 0) (nI (1 + q1)))) hx hb hK hI hP hS hA0 (by decide) rfl (by omega) (by decide) dL_law_229 (pcw5_he (by decide) (lhA (by omega) (by omega))) (fun H locs hP hS => ?_)
  refine lv_aload_n hx hb dL_law_230 rfl (lv_at hl 11 rfl) ?_
  refine lv_bipush (v := nI 6) hx hb dL_law_231 (by decide) ?_
  refine lv_iload hx hb dL_law_233 (lv_at hl 0 rfl) ?_
  refine lv_imulN hx hb dL_law_235 ?_
  refine lv_iconst (v := nI 2) hx hb dL_law_236 (by decide) ?_
  refine lv_iaddN hx hb dL_law_237 ?_
  refine lv_iload hx hb dL_law_238 (lv_at hl 5 rfl) ?_
  refine lv_bipush (v := nI 18) hx hb dL_law_240 (by decide) ?_
  refine lv_ishr hx hb dL_law_242 ?_
  refine lv_bipush (v := nI 24) hx hb dL_law_243 (by decide) ?_
  refine nw_Sr (N1 := 5) (nm := (fun z => 198 + z)) (ce1 := lwc ct (upd (upd Z (39 + 8 * n + 0) (nI (1 + q1))) (39 + 8 * n + 1) (nI q2)) r) (ce1' := lwc ct (upd (upd Z (39 + 8 * n + 0) (nI (1 + q1))) (39 + 8 * n + 1) (nI q2)) r) (ce' := pcw O (lwc ct (upd (upd Z (39 + 8 * n + 0) (nI (1 + q1))) (39 + 8 * n + 1) (nI q2)) r)) (As := [.int (hv >>> ((nI 18) &&& 31)), .int (nI 24)]) (rest := [.int (nI (6 * n + 2)), .ref (ad 198)]) hx hb hml hown htg hK hI hP hS hA0 hl.1 p203 pinj pcr pcr (fun _ _ _ => rfl) (mL_low l D ct (fun z => ad ((fun z => 198 + z) z)) (upd (upd Z (39 + 8 * n + 0) (nI (1 + q1))) (39 + 8 * n + 1) (nI q2)) r (hv >>> ((nI 18) &&& 31)) 24 (by omega) (by omega)) cw_L_62 rfl rfl ⟨Nat.le_of_ble_eq_true rfl, Nat.le_of_ble_eq_true rfl⟩ (Nat.le_of_ble_eq_true rfl) dL_law_245 ⟨(show c0 ≤ 600104 by omega), (show s0 ≤ 7301314 by omega)⟩ (fun H locs hP hS => ?_)
  have hlo := @loN_lt (hv >>> ((nI 18) &&& 31)) 24 (by omega)
  rw [eq3]
  refine fr_iast (k := 198) (f := vwA (upd (upd Z (39 + 8 * n + 0) (nI (1 + q1))) (39 + 8 * n + 1) (nI q2))) hx hb hK hI hP hS hA0 (by decide) rfl (by omega) (by decide) dL_law_248 (pcw5_he (by decide) (lhA (by omega) (by omega))) (fun H locs hP hS => ?_)
  refine lv_aload_n hx hb dL_law_249 rfl (lv_at hl 11 rfl) ?_
  refine lv_bipush (v := nI 6) hx hb dL_law_250 (by decide) ?_
  refine lv_iload hx hb dL_law_252 (lv_at hl 0 rfl) ?_
  refine lv_imulN hx hb dL_law_254 ?_
  refine lv_iconst (v := nI 3) hx hb dL_law_255 (by decide) ?_
  refine lv_iaddN hx hb dL_law_256 ?_
  refine lv_iconst (v := nI 1) hx hb dL_law_257 (by decide) ?_
  refine lv_iload hx hb dL_law_258 (lv_at hl 5 rfl) ?_
  refine lv_bipush (v := nI 22) hx hb dL_law_260 (by decide) ?_
  refine lv_ishr hx hb dL_law_262 ?_
  refine lv_bipush (v := nI 9) hx hb dL_law_263 (by decide) ?_
  refine nw_Sr (N1 := 5) (nm := (fun z => 198 + z)) (ce1 := lwc ct (upd (upd (upd Z (39 + 8 * n + 0) (nI (1 + q1))) (39 + 8 * n + 1) (nI q2)) (39 + 8 * n + 2) (nI q3)) r) (ce1' := lwc ct (upd (upd (upd Z (39 + 8 * n + 0) (nI (1 + q1))) (39 + 8 * n + 1) (nI q2)) (39 + 8 * n + 2) (nI q3)) r) (ce' := pcw O (lwc ct (upd (upd (upd Z (39 + 8 * n + 0) (nI (1 + q1))) (39 + 8 * n + 1) (nI q2)) (39 + 8 * n + 2) (nI q3)) r)) (As := [.int (hv >>> ((nI 22) &&& 31)), .int (nI 9)]) (rest := [.int (nI 1), .int (nI (6 * n + 3)), .ref (ad 198)]) hx hb hml hown htg hK hI hP hS hA0 hl.1 p203 pinj pcr pcr (fun _ _ _ => rfl) (mL_low l D ct (fun z => ad ((fun z => 198 + z) z)) (upd (upd (upd Z (39 + 8 * n + 0) (nI (1 + q1))) (39 + 8 * n + 1) (nI q2)) (39 + 8 * n + 2) (nI q3)) r (hv >>> ((nI 22) &&& 31)) 9 (by omega) (by omega)) cw_L_62 rfl rfl ⟨Nat.le_of_ble_eq_true rfl, Nat.le_of_ble_eq_true rfl⟩ (Nat.le_of_ble_eq_true rfl) dL_law_265 ⟨(show c0 ≤ 600104 by omega), (show s0 ≤ 7301314 by omega)⟩ (fun H locs hP hS => ?_)
  have hlo := @loN_lt (hv >>> ((nI 22) &&& 31)) 9 (by omega)
  rw [eq4]
  refine lv_iaddN hx hb dL_law_268 ?_
  refine fr_iast (k := 198) (f := vwA (upd (upd (upd Z (39 + 8 * n + 0) (nI (1 + q1))) (39 + 8 * n + 1) (nI q2)) (39 + 8 * n + 2) (nI q3))) hx hb hK hI hP hS hA0 (by decide) rfl (by omega) (by decide) dL_law_269 (pcw5_he (by decide) (lhA (by omega) (by omega))) (fun H locs hP hS => ?_)
  refine lv_aload_n hx hb dL_law_270 rfl (lv_at hl 11 rfl) ?_
  refine lv_bipush (v := nI 6) hx hb dL_law_271 (by decide) ?_
  refine lv_iload hx hb dL_law_273 (lv_at hl 0 rfl) ?_
  refine lv_imulN hx hb dL_law_275 ?_
  refine lv_iconst (v := nI 4) hx hb dL_law_276 (by decide) ?_
  refine lv_iaddN hx hb dL_law_277 ?_
  refine lv_iconst (v := -1) hx hb dL_law_278 (by decide) ?_
  refine fr_iast (k := 198) (f := vwA (upd (upd (upd (upd Z (39 + 8 * n + 0) (nI (1 + q1))) (39 + 8 * n + 1) (nI q2)) (39 + 8 * n + 2) (nI q3)) (39 + 8 * n + 3) (nI (1 + q4)))) hx hb hK hI hP hS hA0 (by decide) rfl (by omega) (by decide) dL_law_279 (pcw5_he (by decide) (lhA (by omega) (by omega))) (fun H locs hP hS => ?_)
  refine lv_aload_n hx hb dL_law_280 rfl (lv_at hl 12 rfl) ?_
  refine lv_aload_n hx hb dL_law_281 rfl (lv_at hl 11 rfl) ?_
  refine lv_bipush (v := nI 6) hx hb dL_law_282 (by decide) ?_
  refine lv_iload hx hb dL_law_284 (lv_at hl 0 rfl) ?_
  refine lv_imulN hx hb dL_law_286 ?_
  refine fr_iald (k := 198) (f := vwA (upd (upd (upd (upd (upd Z (39 + 8 * n + 0) (nI (1 + q1))) (39 + 8 * n + 1) (nI q2)) (39 + 8 * n + 2) (nI q3)) (39 + 8 * n + 3) (nI (1 + q4))) (39 + 8 * n + 4) (-1))) hx hb hK hP (by decide) rfl (by omega) (by decide) dL_law_287 ?_
  refine lv_teq (vwA_a0 (by omega)) ?_
  refine lv_teq (show (upd (upd (upd (upd (upd Z (39 + 8 * n + 0) (nI (1 + q1))) (39 + 8 * n + 1) (nI q2)) (39 + 8 * n + 2) (nI q3)) (39 + 8 * n + 3) (nI (1 + q4))) (39 + 8 * n + 4) (-1)) (39 + 8 * n + 0) = nI (1 + q1) from by simp (disch := omega) only [upd_n, upd_s]) ?_
  refine lv_aload_n hx hb dL_law_288 rfl (lv_at hl 11 rfl) ?_
  refine lv_bipush (v := nI 6) hx hb dL_law_289 (by decide) ?_
  refine lv_iload hx hb dL_law_291 (lv_at hl 0 rfl) ?_
  refine lv_imulN hx hb dL_law_293 ?_
  refine lv_iconst (v := nI 1) hx hb dL_law_294 (by decide) ?_
  refine lv_iaddN hx hb dL_law_295 ?_
  refine fr_iald (k := 198) (f := vwA (upd (upd (upd (upd (upd Z (39 + 8 * n + 0) (nI (1 + q1))) (39 + 8 * n + 1) (nI q2)) (39 + 8 * n + 2) (nI q3)) (39 + 8 * n + 3) (nI (1 + q4))) (39 + 8 * n + 4) (-1))) hx hb hK hP (by decide) rfl (by omega) (by decide) dL_law_296 ?_
  refine lv_teq (vwA_at (by omega) (by omega)) ?_
  refine lv_teq (show (upd (upd (upd (upd (upd Z (39 + 8 * n + 0) (nI (1 + q1))) (39 + 8 * n + 1) (nI q2)) (39 + 8 * n + 2) (nI q3)) (39 + 8 * n + 3) (nI (1 + q4))) (39 + 8 * n + 4) (-1)) (39 + 8 * n + 1) = nI (q2) from by simp (disch := omega) only [upd_n, upd_s]) ?_
  refine lv_aload_n hx hb dL_law_297 rfl (lv_at hl 11 rfl) ?_
  refine lv_bipush (v := nI 6) hx hb dL_law_298 (by decide) ?_
  refine lv_iload hx hb dL_law_300 (lv_at hl 0 rfl) ?_
  refine lv_imulN hx hb dL_law_302 ?_
  refine lv_iconst (v := nI 2) hx hb dL_law_303 (by decide) ?_
  refine lv_iaddN hx hb dL_law_304 ?_
  refine fr_iald (k := 198) (f := vwA (upd (upd (upd (upd (upd Z (39 + 8 * n + 0) (nI (1 + q1))) (39 + 8 * n + 1) (nI q2)) (39 + 8 * n + 2) (nI q3)) (39 + 8 * n + 3) (nI (1 + q4))) (39 + 8 * n + 4) (-1))) hx hb hK hP (by decide) rfl (by omega) (by decide) dL_law_305 ?_
  refine lv_teq (vwA_at (by omega) (by omega)) ?_
  refine lv_teq (show (upd (upd (upd (upd (upd Z (39 + 8 * n + 0) (nI (1 + q1))) (39 + 8 * n + 1) (nI q2)) (39 + 8 * n + 2) (nI q3)) (39 + 8 * n + 3) (nI (1 + q4))) (39 + 8 * n + 4) (-1)) (39 + 8 * n + 2) = nI (q3) from by simp (disch := omega) only [upd_n, upd_s]) ?_
  refine lv_aload_n hx hb dL_law_306 rfl (lv_at hl 11 rfl) ?_
  refine lv_bipush (v := nI 6) hx hb dL_law_307 (by decide) ?_
  refine lv_iload hx hb dL_law_309 (lv_at hl 0 rfl) ?_
  refine lv_imulN hx hb dL_law_311 ?_
  refine lv_iconst (v := nI 3) hx hb dL_law_312 (by decide) ?_
  refine lv_iaddN hx hb dL_law_313 ?_
  refine fr_iald (k := 198) (f := vwA (upd (upd (upd (upd (upd Z (39 + 8 * n + 0) (nI (1 + q1))) (39 + 8 * n + 1) (nI q2)) (39 + 8 * n + 2) (nI q3)) (39 + 8 * n + 3) (nI (1 + q4))) (39 + 8 * n + 4) (-1))) hx hb hK hP (by decide) rfl (by omega) (by decide) dL_law_314 ?_
  refine lv_teq (vwA_at (by omega) (by omega)) ?_
  refine lv_teq (show (upd (upd (upd (upd (upd Z (39 + 8 * n + 0) (nI (1 + q1))) (39 + 8 * n + 1) (nI q2)) (39 + 8 * n + 2) (nI q3)) (39 + 8 * n + 3) (nI (1 + q4))) (39 + 8 * n + 4) (-1)) (39 + 8 * n + 3) = nI (1 + q4) from by simp (disch := omega) only [upd_n, upd_s]) ?_
  refine nw_Or (ceO := O) (ceO' := O1) (ce' := pcw O1 (lwc ct (upd (upd (upd (upd (upd Z (39 + 8 * n + 0) (nI (1 + q1))) (39 + 8 * n + 1) (nI q2)) (39 + 8 * n + 2) (nI q3)) (39 + 8 * n + 3) (nI (1 + q4))) (39 + 8 * n + 4) (-1)) r)) (As := [.int (nI (1 + q1)), .int (nI q2), .int (nI q3), .int (nI (1 + q4))]) (rest := []) hx hb hml hown htg hK hI hP hS hA0 hl.1 (by decide) pcl pcl pch hM1 cw_L_88 h0 rfl rfl ⟨Nat.le_of_ble_eq_true rfl, Nat.le_of_ble_eq_true rfl⟩ (Nat.le_of_ble_eq_true rfl) dL_law_315 ⟨(show c0 ≤ 600104 by omega), (show s0 ≤ 7301314 by omega)⟩ (fun H locs hP hS => ?_)
  refine lv_iload hx hb dL_law_318 (lv_at hl 0 rfl) ?_
  refine lv_icmp_ne (tgt := 327) hx hb dL_law_320 (by decide) (fun h => absurd rfl h) (fun _ => ?_)
  refine lv_iconst (v := nI 1) hx hb dL_law_323 (by decide) ?_
  refine lv_goto (tgt := 328) hx hb dL_law_324 (by decide) ?_
  refine lv_istore (lv' := [(12, .int (nI 1)), (13, .int (nI n)), (11, .int (nI i9)), (10, .int (nI k9)), (9, .int (nI kd)), (8, .int (hv)), (7, .int (nI e9)), (6, .ref (ad 202)), (5, .ref (ad 201)), (4, .ref (ad 200)), (3, .ref (ad 199)), (2, .ref (ad 198)), (1, .ref (ad 0)), (0, .ref b)]) hx hb dL_law_328 hl (by decide) rfl (fun ls hl => ?_)
  refine lv_aload hx hb dL_law_330 (lv_at hl 7 rfl) ?_
  refine lv_iconst (v := nI 4) hx hb dL_law_332 (by decide) ?_
  refine lv_dup2_11 hx hb dL_law_333 rfl rfl ?_
  refine fr_iald (k := 202) (f := vwT (upd (upd (upd (upd (upd Z (39 + 8 * n + 0) (nI (1 + q1))) (39 + 8 * n + 1) (nI q2)) (39 + 8 * n + 2) (nI q3)) (39 + 8 * n + 3) (nI (1 + q4))) (39 + 8 * n + 4) (-1))) hx hb hK hP (by decide) rfl (by omega) (by decide) dL_law_334 ?_
  refine lv_teq (vwT_at (by omega)) ?_
  refine lv_teq (lG_upd (lG_upd (lG_upd (lG_upd (lG_upd hg (by omega) (by omega) (fun _ _ => ⟨by omega, by omega, by omega⟩) (fun _ _ => by omega) (fun _ _ => by omega)) (by omega) (by omega) (fun _ _ => ⟨by omega, by omega, by omega⟩) (fun _ _ => by omega) (fun _ _ => by omega)) (by omega) (by omega) (fun _ _ => ⟨by omega, by omega, by omega⟩) (fun _ _ => by omega) (fun _ _ => by omega)) (by omega) (by omega) (fun _ _ => ⟨by omega, by omega, by omega⟩) (fun _ _ => by omega) (fun _ _ => by omega)) (by omega) (by omega) (fun _ _ => ⟨by omega, by omega, by omega⟩) (fun _ _ => by omega) (fun _ _ => by omega)).1.2.1 ?_
  refine lv_iconst (v := nI 1) hx hb dL_law_335 (by decide) ?_
  refine lv_iaddN hx hb dL_law_336 ?_
  refine fr_iast (k := 202) (f := vwT (upd (upd (upd (upd (upd Z (39 + 8 * n + 0) (nI (1 + q1))) (39 + 8 * n + 1) (nI q2)) (39 + 8 * n + 2) (nI q3)) (39 + 8 * n + 3) (nI (1 + q4))) (39 + 8 * n + 4) (-1))) hx hb hK hI hP hS hA0 (by decide) rfl (by omega) (by decide) dL_law_337 (pcw5_he (by decide) (lhT (by omega))) (fun H locs hP hS => ?_)
  refine lv_goto (tgt := 1023) hx hb dL_law_338 (by decide) ?_
  have hl := lv_sub (l' := [(12, .int (nI 1)), (8, .int (hv)), (7, .int (nI e9)), (6, .ref (ad 202)), (5, .ref (ad 201)), (4, .ref (ad 200)), (3, .ref (ad 199)), (2, .ref (ad 198)), (1, .ref (ad 0)), (0, .ref b)]) hl [0, 5, 6, 7, 8, 9, 10, 11, 12, 13] rfl
  have hP : fP D 203 ad (pcw O1 (lwc ct (comeZ Z n (nI (1 + q1)) (nI q2) (nI q3) (nI (1 + q4))) r)) H := by rw [← come_law htl hn9]; exact hP
  exact kk _ _ _ _ _ _ _ (LJ_come hJ hn9 (by omega) (by omega) (by omega) (by omega) (by omega) (by omega) hOS1) hP hS hl
set_option maxRecDepth 100000 in
set_option maxHeartbeats 8000000 in
theorem lc_set {p : Program} {l : Launch} {e : Env} {s : State} {m : MethodId} {below : List Frame} {meth : Method} {c : Code} {Q : State → Prop} {D : va_G} {ct : Nat → ClassId} {ad : Nat → Nat} {b : Nat} (hx : p.tables.exec = Jvm.exec) (hb : c.code = code) (hml : c.maxLocals = 16) (hown : s.vm.findClass RL = some m.cls) (htg : ∀ w ∈ wB, w.before #[Value.ref b] s = true) (hK : va_K D vwCl (fTys ct) s) (hI : fI 203 ad) (hA0 : ∀ i, i < 203 → lA s (ad i)) (hE : gE (lA s) s s.heap) {O : Nat → va_E} {Z : Nat → Int32} {r hv : Int32} {n e9 i9 k9 kd : Nat} (hJ : LJ ct ad O Z r n e9) (he9 : e9 < 52) (hn22 : 2 ≤ n) (c0 s0 : Nat) (hc0 : c0 ≤ 600104) (hs0 : s0 ≤ 7301314) (kk : ∀ (O' : Nat → va_E) (Z' : Nat → Int32) (r' : Int32) (n' : Nat) (H : Heap) (locs : List Loc) (ls : Array Slot), LJ ct ad O' Z' r' n' (e9 + 1) → fP D 203 ad (pcw O' (lwc ct Z' r')) H → va_S (lA s) s.heap H locs → lv_has ls 16 [(12, .int (nI 1)), (8, .int (hv)), (7, .int (nI e9)), (6, .ref (ad 202)), (5, .ref (ad 201)), (4, .ref (ad 200)), (3, .ref (ad 199)), (2, .ref (ad 198)), (1, .ref (ad 0)), (0, .ref b)] → W p l e room_1 s m #[Value.ref b] below meth c H locs c0 s0 Q (F0 m 1023 ls [])) {H : Heap} {locs : List Loc} {ls : Array Slot} (hP : fP D 203 ad (pcw O (lwc ct Z r)) H) (hS : va_S (lA s) s.heap H locs) (hl : lv_has ls 16 [(12, .int (nI 1)), (11, .int (nI i9)), (10, .int (nI k9)), (9, .int (nI kd)), (8, .int (hv)), (7, .int (nI e9)), (6, .ref (ad 202)), (5, .ref (ad 201)), (4, .ref (ad 200)), (3, .ref (ad 199)), (2, .ref (ad 198)), (1, .ref (ad 0)), (0, .ref b)]) : W p l e room_1 s m #[Value.ref b] below meth c H locs c0 s0 Q (F0 m 834 ls []) := by
  have hJ0 := hJ
  obtain ⟨hOS, hri, hg, htl, hmt, ⟨t3, ht3, hz3⟩, hn2⟩ := hJ0
  have hn10 := hg.1.1
  have hO := hri.1
  have ho := hri.2.1
  obtain ⟨w, ew9⟩ : ∃ z9, loN (hv >>> (nI 5 &&& 31)) 3 = z9 := ⟨_, rfl⟩
  have hw3 : w < 3 := by rw [← ew9]; exact loN_lt (by omega)
  obtain ⟨v, ev9⟩ : ∃ z9, (if w = 0 then 1 + loN (hv >>> (nI 11 &&& 31)) 9 else if w = 1 then loN (hv >>> (nI 11 &&& 31)) 2 else 1 + loN (hv >>> (nI 11 &&& 31)) 99) = z9 := ⟨_, rfl⟩
  have hvw : (w = 0 ∧ 1 ≤ v ∧ v ≤ 9) ∨ (w = 1 ∧ v ≤ 1) ∨ (w = 2 ∧ 1 ≤ v ∧ v ≤ 99) := by
    have b1 := loN_lt (v := (hv >>> (nI 11 &&& 31))) (n := 9) (by omega)
    have b2 := loN_lt (v := (hv >>> (nI 11 &&& 31))) (n := 2) (by omega)
    have b3 := loN_lt (v := (hv >>> (nI 11 &&& 31))) (n := 99) (by omega)
    rcases (show w = 0 ∨ w = 1 ∨ w = 2 by omega) with rfl | rfl | rfl
    · rw [if_pos rfl] at ev9; omega
    · rw [if_neg (by omega), if_pos rfl] at ev9; omega
    · rw [if_neg (by omega), if_neg (by omega)] at ev9; omega
  obtain ⟨O1, hM1, hOS1⟩ := os_set (l := l) (D := D) (w := w) (v := v) hOS hri hw3 (set_lo hvw) (set_hi hvw)
  obtain ⟨fs0, h0⟩ := hOS.h5
  obtain ⟨fs1, h1⟩ := hOS1.h5
  have hM2 := os_setting (l := l) (D := D) (w := w) hOS1 hw3
  rw [upd_s] at hM2
  have e0w : 0 + w = w := Nat.zero_add w
  refine lv_iload hx hb dL_law_834 (lv_at hl 4 rfl) ?_
  refine lv_iconst (v := nI 5) hx hb dL_law_836 (by decide) ?_
  refine lv_ishr hx hb dL_law_837 ?_
  refine lv_iconst (v := nI 3) hx hb dL_law_838 (by decide) ?_
  refine nw_Sr (N1 := 5) (nm := (fun z => 198 + z)) (ce1 := lwc ct Z r) (ce1' := lwc ct Z r) (ce' := pcw O (lwc ct Z r)) (As := [.int (hv >>> ((nI 5) &&& 31)), .int (nI 3)]) (rest := []) hx hb hml hown htg hK hI hP hS hA0 hl.1 p203 pinj pcr pcr (fun _ _ _ => rfl) (mL_low l D ct (fun z => ad ((fun z => 198 + z) z)) Z r (hv >>> ((nI 5) &&& 31)) 3 (by omega) (by omega)) cw_L_62 rfl rfl ⟨Nat.le_of_ble_eq_true rfl, Nat.le_of_ble_eq_true rfl⟩ (Nat.le_of_ble_eq_true rfl) dL_law_839 ⟨(show c0 ≤ 600104 by omega), (show s0 ≤ 7301314 by omega)⟩ (fun H locs hP hS => ?_)
  have hlo := @loN_lt (hv >>> ((nI 5) &&& 31)) 3 (by omega)
  rw [ew9]
  refine lv_istore (lv' := [(13, .int (nI w)), (12, .int (nI 1)), (11, .int (nI i9)), (10, .int (nI k9)), (9, .int (nI kd)), (8, .int (hv)), (7, .int (nI e9)), (6, .ref (ad 202)), (5, .ref (ad 201)), (4, .ref (ad 200)), (3, .ref (ad 199)), (2, .ref (ad 198)), (1, .ref (ad 0)), (0, .ref b)]) hx hb dL_law_842 hl (by decide) rfl (fun ls hl => ?_)
  refine lv_iload hx hb dL_law_844 (lv_at hl 0 rfl) ?_
  suffices hJ894 : ∀ (H : Heap) (locs : List Loc), fP D 203 ad (pcw O (lwc ct Z r)) H → va_S (lA s) s.heap H locs → W p l e room_1 s m #[Value.ref b] below meth c H locs (c0) (s0) Q (F0 m 894 ls [.int (nI v)]) by
    refine lv_ifneN (tgt := 864) hx hb (by omega) dL_law_846 (by decide) (fun c846 => ?_) (fun c846 => ?_)
    · refine lv_iload hx hb dL_law_864 (lv_at hl 0 rfl) ?_
      refine lv_iconst (v := nI 1) hx hb dL_law_866 (by decide) ?_
      refine lv_icmp_neN (tgt := 882) hx hb (by omega) (by omega) dL_law_867 (by decide) (fun c867 => ?_) (fun c867 => ?_)
      · refine lv_iconst (v := nI 1) hx hb dL_law_882 (by decide) ?_
        refine lv_iload hx hb dL_law_883 (lv_at hl 5 rfl) ?_
        refine lv_bipush (v := nI 11) hx hb dL_law_885 (by decide) ?_
        refine lv_ishr hx hb dL_law_887 ?_
        refine lv_bipush (v := nI 99) hx hb dL_law_888 (by decide) ?_
        refine nw_Sr (N1 := 5) (nm := (fun z => 198 + z)) (ce1 := lwc ct Z r) (ce1' := lwc ct Z r) (ce' := pcw O (lwc ct Z r)) (As := [.int (hv >>> ((nI 11) &&& 31)), .int (nI 99)]) (rest := [.int (nI 1)]) hx hb hml hown htg hK hI hP hS hA0 hl.1 p203 pinj pcr pcr (fun _ _ _ => rfl) (mL_low l D ct (fun z => ad ((fun z => 198 + z) z)) Z r (hv >>> ((nI 11) &&& 31)) 99 (by omega) (by omega)) cw_L_62 rfl rfl ⟨Nat.le_of_ble_eq_true rfl, Nat.le_of_ble_eq_true rfl⟩ (Nat.le_of_ble_eq_true rfl) dL_law_890 ⟨(show c0 ≤ 600104 by omega), (show s0 ≤ 7301314 by omega)⟩ (fun H locs hP hS => ?_)
        have hlo := @loN_lt (hv >>> ((nI 11) &&& 31)) 99 (by omega)
        refine lv_iaddN hx hb dL_law_893 ?_
        exact lv_tveq (show Value.int (nI (1 + loN (hv >>> ((nI 11) &&& 31)) 99)) = Value.int (nI v) from by exact congrArg Value.int (congrArg nI (((if_neg c846).trans (if_neg c867)).symm.trans ev9))) (hJ894 _ _ hP hS)
      · refine lv_iload hx hb dL_law_870 (lv_at hl 5 rfl) ?_
        refine lv_bipush (v := nI 11) hx hb dL_law_872 (by decide) ?_
        refine lv_ishr hx hb dL_law_874 ?_
        refine lv_iconst (v := nI 2) hx hb dL_law_875 (by decide) ?_
        refine nw_Sr (N1 := 5) (nm := (fun z => 198 + z)) (ce1 := lwc ct Z r) (ce1' := lwc ct Z r) (ce' := pcw O (lwc ct Z r)) (As := [.int (hv >>> ((nI 11) &&& 31)), .int (nI 2)]) (rest := []) hx hb hml hown htg hK hI hP hS hA0 hl.1 p203 pinj pcr pcr (fun _ _ _ => rfl) (mL_low l D ct (fun z => ad ((fun z => 198 + z) z)) Z r (hv >>> ((nI 11) &&& 31)) 2 (by omega) (by omega)) cw_L_62 rfl rfl ⟨Nat.le_of_ble_eq_true rfl, Nat.le_of_ble_eq_true rfl⟩ (Nat.le_of_ble_eq_true rfl) dL_law_876 ⟨(show c0 ≤ 600104 by omega), (show s0 ≤ 7301314 by omega)⟩ (fun H locs hP hS => ?_)
        have hlo := @loN_lt (hv >>> ((nI 11) &&& 31)) 2 (by omega)
        refine lv_goto (tgt := 894) hx hb dL_law_879 (by decide) ?_
        exact lv_tveq (show Value.int (nI (loN (hv >>> ((nI 11) &&& 31)) 2)) = Value.int (nI v) from by exact congrArg Value.int (congrArg nI (((if_neg c846).trans (if_pos c867)).symm.trans ev9))) (hJ894 _ _ hP hS)
    · refine lv_iconst (v := nI 1) hx hb dL_law_849 (by decide) ?_
      refine lv_iload hx hb dL_law_850 (lv_at hl 5 rfl) ?_
      refine lv_bipush (v := nI 11) hx hb dL_law_852 (by decide) ?_
      refine lv_ishr hx hb dL_law_854 ?_
      refine lv_bipush (v := nI 9) hx hb dL_law_855 (by decide) ?_
      refine nw_Sr (N1 := 5) (nm := (fun z => 198 + z)) (ce1 := lwc ct Z r) (ce1' := lwc ct Z r) (ce' := pcw O (lwc ct Z r)) (As := [.int (hv >>> ((nI 11) &&& 31)), .int (nI 9)]) (rest := [.int (nI 1)]) hx hb hml hown htg hK hI hP hS hA0 hl.1 p203 pinj pcr pcr (fun _ _ _ => rfl) (mL_low l D ct (fun z => ad ((fun z => 198 + z) z)) Z r (hv >>> ((nI 11) &&& 31)) 9 (by omega) (by omega)) cw_L_62 rfl rfl ⟨Nat.le_of_ble_eq_true rfl, Nat.le_of_ble_eq_true rfl⟩ (Nat.le_of_ble_eq_true rfl) dL_law_857 ⟨(show c0 ≤ 600104 by omega), (show s0 ≤ 7301314 by omega)⟩ (fun H locs hP hS => ?_)
      have hlo := @loN_lt (hv >>> ((nI 11) &&& 31)) 9 (by omega)
      refine lv_iaddN hx hb dL_law_860 ?_
      refine lv_goto (tgt := 894) hx hb dL_law_861 (by decide) ?_
      exact lv_tveq (show Value.int (nI (1 + loN (hv >>> ((nI 11) &&& 31)) 9)) = Value.int (nI v) from by exact congrArg Value.int (congrArg nI ((if_pos c846).symm.trans ev9))) (hJ894 _ _ hP hS)
  intro H locs hP hS
  refine lv_istore (lv' := [(14, .int (nI v)), (13, .int (nI w)), (12, .int (nI 1)), (11, .int (nI i9)), (10, .int (nI k9)), (9, .int (nI kd)), (8, .int (hv)), (7, .int (nI e9)), (6, .ref (ad 202)), (5, .ref (ad 201)), (4, .ref (ad 200)), (3, .ref (ad 199)), (2, .ref (ad 198)), (1, .ref (ad 0)), (0, .ref b)]) hx hb dL_law_894 hl (by decide) rfl (fun ls hl => ?_)
  refine lv_aload_n hx hb dL_law_896 rfl (lv_at hl 13 rfl) ?_
  refine lv_iload hx hb dL_law_897 (lv_at hl 1 rfl) ?_
  refine lv_iload hx hb dL_law_899 (lv_at hl 0 rfl) ?_
  refine nw_G (ceO := O) (ceO' := O1) (ce' := pcw O1 (lwc ct Z r)) (As := [.int (nI w), .int (nI v)]) (rest := []) hx hb hml hown htg hK hI hP hS hA0 hE hl.1 (by decide) pcl pcl pch hM1 cw_L_109 h0 rfl rfl ⟨Nat.le_of_ble_eq_true rfl, Nat.le_of_ble_eq_true rfl⟩ (Nat.le_of_ble_eq_true rfl) dL_law_901 ⟨(show c0 ≤ 600104 by omega), (show s0 ≤ 7301314 by omega)⟩ (fun H locs hP hS => ?_)
  refine lv_aload hx hb dL_law_904 (lv_at hl 8 rfl) ?_
  refine lv_iload hx hb dL_law_906 (lv_at hl 1 rfl) ?_
  refine fr_iald (k := 202) (f := vwT Z) hx hb hK hP (by decide) rfl (by omega) (by decide) dL_law_908 ?_
  refine lv_teq (vwT_at (by omega)) ?_
  refine lv_icmp_ne (tgt := 927) hx hb dL_law_909 (by decide) (fun h => absurd (congrArg Z (Nat.zero_add w)) h) (fun _ => ?_)
  refine lv_aload_n hx hb dL_law_912 rfl (lv_at hl 13 rfl) ?_
  refine lv_iload hx hb dL_law_913 (lv_at hl 1 rfl) ?_
  refine nw_Or (ceO := O1) (ceO' := O1) (ce' := pcw O1 (lwc ct Z r)) (As := [.int (nI w)]) (rest := []) hx hb hml hown htg hK hI hP hS hA0 hl.1 (by decide) pcl pcl (fun _ _ _ => rfl) hM2 cw_L_112 h1 rfl rfl ⟨Nat.le_of_ble_eq_true rfl, Nat.le_of_ble_eq_true rfl⟩ (Nat.le_of_ble_eq_true rfl) dL_law_915 ⟨(show c0 ≤ 600104 by omega), (show s0 ≤ 7301314 by omega)⟩ (fun H locs hP hS => ?_)
  refine lv_iload hx hb dL_law_918 (lv_at hl 0 rfl) ?_
  refine lv_icmp_ne (tgt := 927) hx hb dL_law_920 (by decide) (fun h => absurd rfl h) (fun _ => ?_)
  refine lv_iconst (v := nI 1) hx hb dL_law_923 (by decide) ?_
  refine lv_goto (tgt := 928) hx hb dL_law_924 (by decide) ?_
  refine lv_istore (lv' := [(12, .int (nI 1)), (14, .int (nI v)), (13, .int (nI w)), (11, .int (nI i9)), (10, .int (nI k9)), (9, .int (nI kd)), (8, .int (hv)), (7, .int (nI e9)), (6, .ref (ad 202)), (5, .ref (ad 201)), (4, .ref (ad 200)), (3, .ref (ad 199)), (2, .ref (ad 198)), (1, .ref (ad 0)), (0, .ref b)]) hx hb dL_law_928 hl (by decide) rfl (fun ls hl => ?_)
  refine lv_aload hx hb dL_law_930 (lv_at hl 8 rfl) ?_
  refine lv_iload hx hb dL_law_932 (lv_at hl 2 rfl) ?_
  refine lv_iload hx hb dL_law_934 (lv_at hl 1 rfl) ?_
  refine fr_iast (k := 202) (f := vwT Z) hx hb hK hI hP hS hA0 (by decide) rfl (by omega) (by decide) dL_law_936 (pcw5_he (by decide) (lhT (by omega))) (fun H locs hP hS => ?_)
  refine lv_goto (tgt := 1023) hx hb dL_law_937 (by decide) ?_
  have hl := lv_sub (l' := [(12, .int (nI 1)), (8, .int (hv)), (7, .int (nI e9)), (6, .ref (ad 202)), (5, .ref (ad 201)), (4, .ref (ad 200)), (3, .ref (ad 199)), (2, .ref (ad 198)), (1, .ref (ad 0)), (0, .ref b)]) hl [0, 6, 7, 8, 9, 10, 11, 12, 13, 14] rfl
  have hOS2 := hOS1
  rw [e0w] at hOS2
  have hri2 := rI_set hri hw3 (set_0 hvw) (set_1 hvw)
  rw [e0w] at hri2
  exact kk _ _ _ _ _ _ _ (LJ_upd hJ hn22 hOS2 hri2 (lG_upd hg (by omega) (by omega) (fun _ _ => ⟨by omega, by omega, by omega⟩) (fun _ _ => by omega) (fun _ _ => by omega)) (by omega) (fun _ => ⟨by omega, by omega⟩) (fun _ _ => by omega) (fun _ _ => by omega)) hP hS hl
theorem LJ_O {ct : Nat → ClassId} {ad : Nat → Nat} {O O' : Nat → va_E} {Z : Nat → Int32} {r : Int32} {n e : Nat} (h : LJ ct ad O Z r n e) (hO : OS ct ad O' Z n) : LJ ct ad O' Z r n e := ⟨hO, h.2⟩
set_option maxRecDepth 100000 in
set_option maxHeartbeats 8000000 in
theorem lc_tail {p : Program} {l : Launch} {e : Env} {s : State} {m : MethodId} {below : List Frame} {meth : Method} {c : Code} {Q : State → Prop} {D : va_G} {ct : Nat → ClassId} {ad : Nat → Nat} {b : Nat} (hx : p.tables.exec = Jvm.exec) (hb : c.code = code) (hml : c.maxLocals = 16) (hown : s.vm.findClass RL = some m.cls) (htg : ∀ w ∈ wB, w.before #[Value.ref b] s = true) (hK : va_K D vwCl (fTys ct) s) (hI : fI 203 ad) (hA0 : ∀ i, i < 203 → lA s (ad i)) (hE : gE (lA s) s s.heap) {L : Nat} {xs : Nat → Int32} (hX : va_X b L xs s s.heap) (hbl : b < s.heap.size) (hL : L ≤ 260) {O : Nat → va_E} {Z : Nat → Int32} {r hv : Int32} {n e9 : Nat} (hJ : LJ ct ad O Z r n (e9 + 1)) (he9 : e9 < 52) (c0 s0 : Nat) (hc0 : c0 + 56 ≤ 600104) (hs0 : s0 + 1500 ≤ 7301314) (kk : ∀ (O' : Nat → va_E) (H : Heap) (locs : List Loc) (ls : Array Slot), LJ ct ad O' Z r n (e9 + 1) → fP D 203 ad (pcw O' (lwc ct Z r)) H → va_S (lA s) s.heap H locs → lv_has ls 16 [(7, .int (nI (e9 + 1))), (6, .ref (ad 202)), (5, .ref (ad 201)), (4, .ref (ad 200)), (3, .ref (ad 199)), (2, .ref (ad 198)), (1, .ref (ad 0)), (0, .ref b)] → W p l e room_1 s m #[Value.ref b] below meth c H locs (c0 + 56) (s0 + 1500) Q (F0 m 83 ls [])) {H : Heap} {locs : List Loc} {ls : Array Slot} (hP : fP D 203 ad (pcw O (lwc ct Z r)) H) (hS : va_S (lA s) s.heap H locs) (hl : lv_has ls 16 [(12, .int (nI 1)), (8, .int (hv)), (7, .int (nI e9)), (6, .ref (ad 202)), (5, .ref (ad 201)), (4, .ref (ad 200)), (3, .ref (ad 199)), (2, .ref (ad 198)), (1, .ref (ad 0)), (0, .ref b)]) : W p l e room_1 s m #[Value.ref b] below meth c H locs c0 s0 Q (F0 m 1023 ls []) := by
  have hJ0 := hJ
  obtain ⟨hOS, hri, hg, htl, hmt, ⟨t3, ht3, hz3⟩, hn2⟩ := hJ0
  have hn10 := hg.1.1
  have hO := hri.1
  have hu := hri.2.2.1
  obtain ⟨h9, hh9, hb9⟩ := hri.2.2.2
  obtain ⟨sv, hsv1, hsv⟩ := hb9.2.1
  obtain ⟨sd, hsd1, hsd⟩ := dark_n hb9 n (Nat.le_refl n)
  have hsd2 : sd ≤ 10 * 9999 := Nat.le_trans hsd1 (Nat.mul_le_mul hn10 hh9)
  refine lv_iload hx hb dL_law_1023 (lv_at hl 0 rfl) ?_
  refine lv_if_eq (tgt := 1120) hx hb dL_law_1025 (by decide) (fun h => absurd h (by decide)) (fun _ => ?_)
  refine lv_aload_n hx hb dL_law_1028 rfl (lv_at hl 8 rfl) ?_
  refine lv_aload_n hx hb dL_law_1029 rfl (lv_at hl 7 rfl) ?_
  refine lv_aload_n hx hb dL_law_1030 rfl (lv_at hl 6 rfl) ?_
  refine lv_aload hx hb dL_law_1031 (lv_at hl 5 rfl) ?_
  refine lv_aload hx hb dL_law_1033 (lv_at hl 4 rfl) ?_
  refine lv_aload hx hb dL_law_1035 (lv_at hl 3 rfl) ?_
  refine nw_Sr (N1 := 203) (nm := fun z => z) (ce1 := pcw O (lwc ct Z r)) (ce1' := pcw O (lwc ct Z r)) (ce' := pcw O (lwc ct Z r)) (As := [.ref (ad 0), .ref (ad 198), .ref (ad 199), .ref (ad 200), .ref (ad 201), .ref (ad 202)]) (rest := []) hx hb hml hown htg hK hI hP hS hA0 hl.1 (fun _ h => h) (fun _ _ _ _ h => h) (fun _ _ => rfl) (fun _ _ => rfl) (fun _ _ _ => rfl) (mL_tells l D ct ad O Z r n sv sd hOS hO hu hg hmt hsv hsd (by omega)) cw_L_118 rfl rfl ⟨Nat.le_of_ble_eq_true rfl, Nat.le_of_ble_eq_true rfl⟩ (Nat.le_of_ble_eq_true rfl) dL_law_1037 ⟨(show c0 ≤ 600104 by omega), (show s0 ≤ 7301314 by omega)⟩ (fun H locs hP hS => ?_)
  refine lv_if_eq (tgt := 1120) hx hb dL_law_1040 (by decide) (fun h => absurd h (by decide)) (fun _ => ?_)
  refine lv_iload hx hb dL_law_1043 (lv_at hl 2 rfl) ?_
  refine lv_bipush (v := nI 7) hx hb dL_law_1045 (by decide) ?_
  refine lv_iremN hx hb (by omega) (by omega) (by omega) dL_law_1047 ?_
  refine lv_bipush (v := nI 6) hx hb dL_law_1048 (by decide) ?_
  suffices hJ1077 : ∀ (O1 : Nat → va_E), OS ct ad O1 Z n → ∀ (H : Heap) (locs : List Loc) (ls : Array Slot), fP D 203 ad (pcw O1 (lwc ct Z r)) H → va_S (lA s) s.heap H locs → lv_has ls 16 [(8, .int (hv)), (7, .int (nI e9)), (6, .ref (ad 202)), (5, .ref (ad 201)), (4, .ref (ad 200)), (3, .ref (ad 199)), (2, .ref (ad 198)), (1, .ref (ad 0)), (0, .ref b)] → W p l e room_1 s m #[Value.ref b] below meth c H locs (c0 + 52) (s0 + 1391) Q (F0 m 1077 ls []) by
    refine lv_icmp_neN (tgt := 1077) hx hb (by omega) (by omega) dL_law_1050 (by decide) (fun c1050 => ?_) (fun c1050 => ?_)
    · have hl := lv_sub (l' := [(8, .int (hv)), (7, .int (nI e9)), (6, .ref (ad 202)), (5, .ref (ad 201)), (4, .ref (ad 200)), (3, .ref (ad 199)), (2, .ref (ad 198)), (1, .ref (ad 0)), (0, .ref b)]) hl [1, 2, 3, 4, 5, 6, 7, 8, 9] rfl
      exact W_wide (by omega) (by omega) (hJ1077 _ hOS _ _ _ hP hS hl)
    · obtain ⟨O1, hMw, hOS1⟩ := mL_wouldBe l D ct ad O Z r (clV L xs (52 + e9)) n hOS hri hg (by omega)
      refine lv_aload_n hx hb dL_law_1053 rfl (lv_at hl 8 rfl) ?_
      refine lv_aload_n hx hb dL_law_1054 rfl (lv_at hl 7 rfl) ?_
      refine lv_aload_n hx hb dL_law_1055 rfl (lv_at hl 6 rfl) ?_
      refine lv_aload hx hb dL_law_1056 (lv_at hl 5 rfl) ?_
      refine lv_aload hx hb dL_law_1058 (lv_at hl 4 rfl) ?_
      refine lv_aload hx hb dL_law_1060 (lv_at hl 3 rfl) ?_
      refine lv_aload_n hx hb dL_law_1062 rfl (lv_at hl 9 rfl) ?_
      refine lv_bipush (v := nI 52) hx hb dL_law_1063 (by decide) ?_
      refine lv_iload hx hb dL_law_1065 (lv_at hl 2 rfl) ?_
      refine lv_iaddN hx hb dL_law_1067 ?_
      refine nw_cell (rest := [.ref (ad 202), .ref (ad 201), .ref (ad 200), .ref (ad 199), .ref (ad 198), .ref (ad 0)]) hx hb hml hown htg hP hS hl.1 hX hbl (Nat.not_le.mpr hbl) (mL_cell l b L xs (52 + e9) hL (by omega)) cw_L_85 rfl ⟨Nat.le_of_ble_eq_true rfl, Nat.le_of_ble_eq_true rfl⟩ (Nat.le_of_ble_eq_true rfl) dL_law_1068 ⟨(show c0 ≤ 600104 by omega), (show s0 ≤ 7301314 by omega)⟩ (fun H locs hP hS => ?_)
      refine nw_N (N1 := 203) (nm := fun z => z) (ce1 := pcw O (lwc ct Z r)) (ce1' := pcw O1 (lwc ct Z r)) (ce' := pcw O1 (lwc ct Z r)) (As := [.ref (ad 0), .ref (ad 198), .ref (ad 199), .ref (ad 200), .ref (ad 201), .ref (ad 202), .int (clV L xs (52 + e9))]) (rest := []) hx hb hml hown htg hK hI hP hS (fun _ h => h) hA0 hl.1 (fun _ h => h) (fun _ _ _ _ h => h) (fun _ _ => rfl) (fun _ _ => rfl) (fun i hi ho => absurd rfl (ho i hi)) (hMw _) cw_L_122 rfl rfl ⟨Nat.le_of_ble_eq_true rfl, Nat.le_of_ble_eq_true rfl⟩ (Nat.le_of_ble_eq_true rfl) dL_law_1071 ⟨(show c0 + 52 ≤ 600104 by omega), (show s0 + 1391 ≤ 7301314 by omega)⟩ (fun H locs hP hS => ?_)
      refine lv_if_eq (tgt := 1120) hx hb dL_law_1074 (by decide) (fun h => absurd h (by decide)) (fun _ => ?_)
      have hl := lv_sub (l' := [(8, .int (hv)), (7, .int (nI e9)), (6, .ref (ad 202)), (5, .ref (ad 201)), (4, .ref (ad 200)), (3, .ref (ad 199)), (2, .ref (ad 198)), (1, .ref (ad 0)), (0, .ref b)]) hl [1, 2, 3, 4, 5, 6, 7, 8, 9] rfl
      exact W_wide (by omega) (by omega) (hJ1077 _ hOS1 _ _ _ hP hS hl)
  intro O1 hOS1 H locs ls hP hS hl
  obtain ⟨i8, ei8⟩ : ∃ z9, loN (hv >>> (nI 20 &&& 31)) 4 = z9 := ⟨_, rfl⟩
  have hi8 : i8 < 4 := by rw [← ei8]; exact loN_lt (by omega)
  obtain ⟨O2, hMt, hOS2⟩ := mL_trips l D ct ad O1 Z r (clV L xs (52 + e9)) n i8 hOS1 hri hg hi8
  refine lv_iload hx hb dL_law_1077 (lv_at hl 1 rfl) ?_
  refine lv_bipush (v := nI 13) hx hb dL_law_1079 (by decide) ?_
  refine lv_iremN hx hb (by omega) (by omega) (by omega) dL_law_1081 ?_
  refine lv_bipush (v := nI 12) hx hb dL_law_1082 (by decide) ?_
  refine lv_icmp_neN (tgt := 1122) hx hb (by omega) (by omega) dL_law_1084 (by decide) (fun c1084 => ?_) (fun c1084 => ?_)
  · have hJ2 := LJ_O hJ hOS1
    refine lv_iinc (v := nI (e9 + 1)) (lv' := [(7, .int (nI (e9 + 1))), (8, .int (hv)), (6, .ref (ad 202)), (5, .ref (ad 201)), (4, .ref (ad 200)), (3, .ref (ad 199)), (2, .ref (ad 198)), (1, .ref (ad 0)), (0, .ref b)]) hx hb dL_law_1122 hl (k := 1) rfl (nI_add e9 1) (by decide) rfl (fun ls hl => ?_)
    refine lv_goto (tgt := 83) hx hb dL_law_1125 (by decide) ?_
    have hl := lv_sub (l' := [(7, .int (nI (e9 + 1))), (6, .ref (ad 202)), (5, .ref (ad 201)), (4, .ref (ad 200)), (3, .ref (ad 199)), (2, .ref (ad 198)), (1, .ref (ad 0)), (0, .ref b)]) hl [0, 2, 3, 4, 5, 6, 7, 8] rfl
    exact W_wide (by omega) (by omega) (kk _ _ _ _ hJ2 hP hS hl)
  · refine lv_aload_n hx hb dL_law_1087 rfl (lv_at hl 7 rfl) ?_
    refine lv_aload_n hx hb dL_law_1088 rfl (lv_at hl 6 rfl) ?_
    refine lv_aload_n hx hb dL_law_1089 rfl (lv_at hl 5 rfl) ?_
    refine lv_aload hx hb dL_law_1090 (lv_at hl 4 rfl) ?_
    refine lv_aload hx hb dL_law_1092 (lv_at hl 3 rfl) ?_
    refine lv_aload hx hb dL_law_1094 (lv_at hl 2 rfl) ?_
    refine lv_iload hx hb dL_law_1096 (lv_at hl 0 rfl) ?_
    refine lv_bipush (v := nI 20) hx hb dL_law_1098 (by decide) ?_
    refine lv_ishr hx hb dL_law_1100 ?_
    refine lv_iconst (v := nI 4) hx hb dL_law_1101 (by decide) ?_
    refine nw_Sr (N1 := 5) (nm := (fun z => 198 + z)) (ce1 := lwc ct Z r) (ce1' := lwc ct Z r) (ce' := pcw O1 (lwc ct Z r)) (As := [.int (hv >>> ((nI 20) &&& 31)), .int (nI 4)]) (rest := [.ref (ad 202), .ref (ad 201), .ref (ad 200), .ref (ad 199), .ref (ad 198), .ref (ad 0)]) hx hb hml hown htg hK hI hP hS hA0 hl.1 p203 pinj pcr pcr (fun _ _ _ => rfl) (mL_low l D ct (fun z => ad ((fun z => 198 + z) z)) Z r (hv >>> ((nI 20) &&& 31)) 4 (by omega) (by omega)) cw_L_62 rfl rfl ⟨Nat.le_of_ble_eq_true rfl, Nat.le_of_ble_eq_true rfl⟩ (Nat.le_of_ble_eq_true rfl) dL_law_1102 ⟨(show c0 + 52 ≤ 600104 by omega), (show s0 + 1391 ≤ 7301314 by omega)⟩ (fun H locs hP hS => ?_)
    have hlo := @loN_lt (hv >>> ((nI 20) &&& 31)) 4 (by omega)
    rw [ei8]
    refine lv_aload_n hx hb dL_law_1105 rfl (lv_at hl 8 rfl) ?_
    refine lv_bipush (v := nI 52) hx hb dL_law_1106 (by decide) ?_
    refine lv_iload hx hb dL_law_1108 (lv_at hl 1 rfl) ?_
    refine lv_iaddN hx hb dL_law_1110 ?_
    refine nw_cell (rest := [.int (nI i8), .ref (ad 202), .ref (ad 201), .ref (ad 200), .ref (ad 199), .ref (ad 198), .ref (ad 0)]) hx hb hml hown htg hP hS hl.1 hX hbl (Nat.not_le.mpr hbl) (mL_cell l b L xs (52 + e9) hL (by omega)) cw_L_85 rfl ⟨Nat.le_of_ble_eq_true rfl, Nat.le_of_ble_eq_true rfl⟩ (Nat.le_of_ble_eq_true rfl) dL_law_1111 ⟨(show c0 + 52 ≤ 600104 by omega), (show s0 + 1391 ≤ 7301314 by omega)⟩ (fun H locs hP hS => ?_)
    refine nw_N (N1 := 203) (nm := fun z => z) (ce1 := pcw O1 (lwc ct Z r)) (ce1' := pcw O2 (lwc ct Z r)) (ce' := pcw O2 (lwc ct Z r)) (As := [.ref (ad 0), .ref (ad 198), .ref (ad 199), .ref (ad 200), .ref (ad 201), .ref (ad 202), .int (nI i8), .int (clV L xs (52 + e9))]) (rest := []) hx hb hml hown htg hK hI hP hS (fun _ h => h) hA0 hl.1 (fun _ h => h) (fun _ _ _ _ h => h) (fun _ _ => rfl) (fun _ _ => rfl) (fun i hi ho => absurd rfl (ho i hi)) (hMt _) cw_L_126 rfl rfl ⟨Nat.le_of_ble_eq_true rfl, Nat.le_of_ble_eq_true rfl⟩ (Nat.le_of_ble_eq_true rfl) dL_law_1114 ⟨(show c0 + 52 + 4 ≤ 600104 by omega), (show s0 + 1391 + 107 ≤ 7301314 by omega)⟩ (fun H locs hP hS => ?_)
    refine lv_if_ne (tgt := 1122) hx hb dL_law_1117 (by decide) (fun _ => ?_) (fun h => absurd h (by decide))
    have hJ2 := LJ_O hJ hOS2
    refine lv_iinc (v := nI (e9 + 1)) (lv' := [(7, .int (nI (e9 + 1))), (8, .int (hv)), (6, .ref (ad 202)), (5, .ref (ad 201)), (4, .ref (ad 200)), (3, .ref (ad 199)), (2, .ref (ad 198)), (1, .ref (ad 0)), (0, .ref b)]) hx hb dL_law_1122 hl (k := 1) rfl (nI_add e9 1) (by decide) rfl (fun ls hl => ?_)
    refine lv_goto (tgt := 83) hx hb dL_law_1125 (by decide) ?_
    have hl := lv_sub (l' := [(7, .int (nI (e9 + 1))), (6, .ref (ad 202)), (5, .ref (ad 201)), (4, .ref (ad 200)), (3, .ref (ad 199)), (2, .ref (ad 198)), (1, .ref (ad 0)), (0, .ref b)]) hl [0, 2, 3, 4, 5, 6, 7, 8] rfl
    exact W_wide (by omega) (by omega) (kk _ _ _ _ hJ2 hP hS hl)
set_option maxRecDepth 100000 in
set_option maxHeartbeats 8000000 in
theorem lc_step {p : Program} {l : Launch} {e : Env} {s : State} {m : MethodId} {below : List Frame} {meth : Method} {c : Code} {Q : State → Prop} {D : va_G} {ct : Nat → ClassId} {ad : Nat → Nat} {b : Nat} (hx : p.tables.exec = Jvm.exec) (hb : c.code = code) (hml : c.maxLocals = 16) (hown : s.vm.findClass RL = some m.cls) (htg : ∀ w ∈ wB, w.before #[Value.ref b] s = true) (hK : va_K D vwCl (fTys ct) s) (hI : fI 203 ad) (hA0 : ∀ i, i < 203 → lA s (ad i)) (hE : gE (lA s) s s.heap) {L : Nat} {xs : Nat → Int32} (hX : va_X b L xs s s.heap) (hbl : b < s.heap.size) (hL : L ≤ 260) {O : Nat → va_E} {Z : Nat → Int32} {r : Int32} {n e9 : Nat} (hJ : LJ ct ad O Z r n e9) (he9 : e9 < 52) (c0 s0 : Nat) (hc0 : c0 + 56 ≤ 600104) (hs0 : s0 + 1500 ≤ 7301314) (kk : ∀ (O' : Nat → va_E) (Z' : Nat → Int32) (r' : Int32) (n' : Nat) (H : Heap) (locs : List Loc) (ls : Array Slot), LJ ct ad O' Z' r' n' (e9 + 1) → fP D 203 ad (pcw O' (lwc ct Z' r')) H → va_S (lA s) s.heap H locs → lv_has ls 16 [(7, .int (nI (e9 + 1))), (6, .ref (ad 202)), (5, .ref (ad 201)), (4, .ref (ad 200)), (3, .ref (ad 199)), (2, .ref (ad 198)), (1, .ref (ad 0)), (0, .ref b)] → W p l e room_1 s m #[Value.ref b] below meth c H locs (c0 + 56) (s0 + 1500) Q (F0 m 83 ls [])) {H : Heap} {locs : List Loc} {ls : Array Slot} (hP : fP D 203 ad (pcw O (lwc ct Z r)) H) (hS : va_S (lA s) s.heap H locs) (hl : lv_has ls 16 [(7, .int (nI e9)), (6, .ref (ad 202)), (5, .ref (ad 201)), (4, .ref (ad 200)), (3, .ref (ad 199)), (2, .ref (ad 198)), (1, .ref (ad 0)), (0, .ref b)]) : W p l e room_1 s m #[Value.ref b] below meth c H locs c0 s0 Q (F0 m 90 ls []) := by
  have hJ0 := hJ
  obtain ⟨hOS, hri, hg, htl, hmt, ⟨t3, ht3, hz3⟩, hn2⟩ := hJ0
  have hn10 := hg.1.1
  refine lv_aload_n hx hb dL_law_90 rfl (lv_at hl 7 rfl) ?_
  refine lv_iload hx hb dL_law_91 (lv_at hl 0 rfl) ?_
  refine nw_cell (rest := []) hx hb hml hown htg hP hS hl.1 hX hbl (Nat.not_le.mpr hbl) (mL_cell l b L xs (e9) hL (by omega)) cw_L_85 rfl ⟨Nat.le_of_ble_eq_true rfl, Nat.le_of_ble_eq_true rfl⟩ (Nat.le_of_ble_eq_true rfl) dL_law_93 ⟨(show c0 ≤ 600104 by omega), (show s0 ≤ 7301314 by omega)⟩ (fun H locs hP hS => ?_)
  obtain ⟨hv, ehv⟩ : ∃ z9, clV L xs e9 = z9 := ⟨_, rfl⟩
  rw [ehv]
  obtain ⟨kd, ekd⟩ : ∃ z9, loN hv 18 = z9 := ⟨_, rfl⟩
  have hkd : kd < 18 := by rw [← ekd]; exact loN_lt (by omega)
  obtain ⟨k9, ek9⟩ : ∃ z9, (if n = 0 then 0 else loN (hv >>> (nI 5 &&& 31)) n) = z9 := ⟨_, rfl⟩
  have hkn9 : 2 ≤ n → k9 < n := fun h => by rw [← ek9, if_neg (by omega)]; exact loN_lt (by omega)
  have hk10 : k9 < 10 := by rw [← ek9]; split; omega; have := loN_lt (v := hv >>> (nI 5 &&& 31)) (n := n) (by omega); omega
  obtain ⟨i9, ei9⟩ : ∃ z9, loN (hv >>> (nI 9 &&& 31)) 4 = z9 := ⟨_, rfl⟩
  have hi4 : i9 < 4 := by rw [← ei9]; exact loN_lt (by omega)
  have kkT : ∀ (O' : Nat → va_E) (Z' : Nat → Int32) (r' : Int32) (n' : Nat) (H : Heap) (locs : List Loc) (ls : Array Slot), LJ ct ad O' Z' r' n' (e9 + 1) → fP D 203 ad (pcw O' (lwc ct Z' r')) H → va_S (lA s) s.heap H locs → lv_has ls 16 [(12, .int (nI 1)), (8, .int (hv)), (7, .int (nI e9)), (6, .ref (ad 202)), (5, .ref (ad 201)), (4, .ref (ad 200)), (3, .ref (ad 199)), (2, .ref (ad 198)), (1, .ref (ad 0)), (0, .ref b)] → W p l e room_1 s m #[Value.ref b] below meth c H locs c0 s0 Q (F0 m 1023 ls []) := fun O' Z' r' n' H locs ls hJ' hP hS hl => lc_tail hx hb hml hown htg hK hI hA0 hE hX hbl hL hJ' he9 c0 s0 hc0 hs0 (fun O2 H locs ls h1 h2 h3 h4 => kk O2 Z' r' n' H locs ls h1 h2 h3 h4) hP hS hl
  refine lv_istore (lv' := [(8, .int (hv)), (7, .int (nI e9)), (6, .ref (ad 202)), (5, .ref (ad 201)), (4, .ref (ad 200)), (3, .ref (ad 199)), (2, .ref (ad 198)), (1, .ref (ad 0)), (0, .ref b)]) hx hb dL_law_96 hl (by decide) rfl (fun ls hl => ?_)
  refine lv_iload hx hb dL_law_98 (lv_at hl 0 rfl) ?_
  refine lv_bipush (v := nI 18) hx hb dL_law_100 (by decide) ?_
  refine nw_Sr (N1 := 5) (nm := (fun z => 198 + z)) (ce1 := lwc ct Z r) (ce1' := lwc ct Z r) (ce' := pcw O (lwc ct Z r)) (As := [.int (hv), .int (nI 18)]) (rest := []) hx hb hml hown htg hK hI hP hS hA0 hl.1 p203 pinj pcr pcr (fun _ _ _ => rfl) (mL_low l D ct (fun z => ad ((fun z => 198 + z) z)) Z r hv 18 (by omega) (by omega)) cw_L_62 rfl rfl ⟨Nat.le_of_ble_eq_true rfl, Nat.le_of_ble_eq_true rfl⟩ (Nat.le_of_ble_eq_true rfl) dL_law_102 ⟨(show c0 ≤ 600104 by omega), (show s0 ≤ 7301314 by omega)⟩ (fun H locs hP hS => ?_)
  have hlo := @loN_lt hv 18 (by omega)
  rw [ekd]
  refine lv_istore (lv' := [(9, .int (nI kd)), (8, .int (hv)), (7, .int (nI e9)), (6, .ref (ad 202)), (5, .ref (ad 201)), (4, .ref (ad 200)), (3, .ref (ad 199)), (2, .ref (ad 198)), (1, .ref (ad 0)), (0, .ref b)]) hx hb dL_law_105 hl (by decide) rfl (fun ls hl => ?_)
  refine lv_aload hx hb dL_law_107 (lv_at hl 3 rfl) ?_
  refine lv_iconst (v := nI 4) hx hb dL_law_109 (by decide) ?_
  refine fr_iald (k := 202) (f := vwT Z) hx hb hK hP (by decide) rfl (by omega) (by decide) dL_law_110 ?_
  refine lv_teq (vwT_at (by omega)) ?_
  refine lv_teq (hg).1.2.1 ?_
  suffices hJ129 : ∀ (H : Heap) (locs : List Loc), fP D 203 ad (pcw O (lwc ct Z r)) H → va_S (lA s) s.heap H locs → W p l e room_1 s m #[Value.ref b] below meth c H locs (c0) (s0) Q (F0 m 129 ls [.int (nI k9)]) by
    refine lv_ifneN (tgt := 118) hx hb (by omega) dL_law_111 (by decide) (fun c111 => ?_) (fun c111 => ?_)
    · refine lv_iload hx hb dL_law_118 (lv_at hl 1 rfl) ?_
      refine lv_iconst (v := nI 5) hx hb dL_law_120 (by decide) ?_
      refine lv_ishr hx hb dL_law_121 ?_
      refine lv_aload hx hb dL_law_122 (lv_at hl 3 rfl) ?_
      refine lv_iconst (v := nI 4) hx hb dL_law_124 (by decide) ?_
      refine fr_iald (k := 202) (f := vwT Z) hx hb hK hP (by decide) rfl (by omega) (by decide) dL_law_125 ?_
      refine lv_teq (vwT_at (by omega)) ?_
      refine lv_teq (hg).1.2.1 ?_
      refine nw_Sr (N1 := 5) (nm := (fun z => 198 + z)) (ce1 := lwc ct Z r) (ce1' := lwc ct Z r) (ce' := pcw O (lwc ct Z r)) (As := [.int (hv >>> ((nI 5) &&& 31)), .int (nI n)]) (rest := []) hx hb hml hown htg hK hI hP hS hA0 hl.1 p203 pinj pcr pcr (fun _ _ _ => rfl) (mL_low l D ct (fun z => ad ((fun z => 198 + z) z)) Z r (hv >>> ((nI 5) &&& 31)) n (by omega) (by omega)) cw_L_62 rfl rfl ⟨Nat.le_of_ble_eq_true rfl, Nat.le_of_ble_eq_true rfl⟩ (Nat.le_of_ble_eq_true rfl) dL_law_126 ⟨(show c0 ≤ 600104 by omega), (show s0 ≤ 7301314 by omega)⟩ (fun H locs hP hS => ?_)
      have hlo := @loN_lt (hv >>> ((nI 5) &&& 31)) n (by omega)
      exact lv_tveq (show Value.int (nI (loN (hv >>> ((nI 5) &&& 31)) n)) = Value.int (nI k9) from by exact congrArg Value.int (congrArg nI ((if_neg c111).symm.trans ek9))) (hJ129 _ _ hP hS)
    · refine lv_iconst (v := nI 0) hx hb dL_law_114 (by decide) ?_
      refine lv_goto (tgt := 129) hx hb dL_law_115 (by decide) ?_
      exact lv_tveq (show Value.int (nI 0) = Value.int (nI k9) from by exact congrArg Value.int (congrArg nI ((if_pos c111).symm.trans ek9))) (hJ129 _ _ hP hS)
  intro H locs hP hS
  refine lv_istore (lv' := [(10, .int (nI k9)), (9, .int (nI kd)), (8, .int (hv)), (7, .int (nI e9)), (6, .ref (ad 202)), (5, .ref (ad 201)), (4, .ref (ad 200)), (3, .ref (ad 199)), (2, .ref (ad 198)), (1, .ref (ad 0)), (0, .ref b)]) hx hb dL_law_129 hl (by decide) rfl (fun ls hl => ?_)
  refine lv_iload hx hb dL_law_131 (lv_at hl 2 rfl) ?_
  refine lv_bipush (v := nI 9) hx hb dL_law_133 (by decide) ?_
  refine lv_ishr hx hb dL_law_135 ?_
  refine lv_iconst (v := nI 4) hx hb dL_law_136 (by decide) ?_
  refine nw_Sr (N1 := 5) (nm := (fun z => 198 + z)) (ce1 := lwc ct Z r) (ce1' := lwc ct Z r) (ce' := pcw O (lwc ct Z r)) (As := [.int (hv >>> ((nI 9) &&& 31)), .int (nI 4)]) (rest := []) hx hb hml hown htg hK hI hP hS hA0 hl.1 p203 pinj pcr pcr (fun _ _ _ => rfl) (mL_low l D ct (fun z => ad ((fun z => 198 + z) z)) Z r (hv >>> ((nI 9) &&& 31)) 4 (by omega) (by omega)) cw_L_62 rfl rfl ⟨Nat.le_of_ble_eq_true rfl, Nat.le_of_ble_eq_true rfl⟩ (Nat.le_of_ble_eq_true rfl) dL_law_137 ⟨(show c0 ≤ 600104 by omega), (show s0 ≤ 7301314 by omega)⟩ (fun H locs hP hS => ?_)
  have hlo := @loN_lt (hv >>> ((nI 9) &&& 31)) 4 (by omega)
  rw [ei9]
  refine lv_istore (lv' := [(11, .int (nI i9)), (10, .int (nI k9)), (9, .int (nI kd)), (8, .int (hv)), (7, .int (nI e9)), (6, .ref (ad 202)), (5, .ref (ad 201)), (4, .ref (ad 200)), (3, .ref (ad 199)), (2, .ref (ad 198)), (1, .ref (ad 0)), (0, .ref b)]) hx hb dL_law_140 hl (by decide) rfl (fun ls hl => ?_)
  refine lv_iconst (v := nI 1) hx hb dL_law_142 (by decide) ?_
  refine lv_istore (lv' := [(12, .int (nI 1)), (11, .int (nI i9)), (10, .int (nI k9)), (9, .int (nI kd)), (8, .int (hv)), (7, .int (nI e9)), (6, .ref (ad 202)), (5, .ref (ad 201)), (4, .ref (ad 200)), (3, .ref (ad 199)), (2, .ref (ad 198)), (1, .ref (ad 0)), (0, .ref b)]) hx hb dL_law_143 hl (by decide) rfl (fun ls hl => ?_)
  refine lv_iload hx hb dL_law_145 (lv_at hl 3 rfl) ?_
  refine lv_iconst (v := nI 3) hx hb dL_law_147 (by decide) ?_
  refine lv_icmp_ltN (tgt := 159) hx hb (by omega) (by omega) dL_law_148 (by decide) (fun c148 => ?_) (fun c148 => ?_)
  · refine lv_aload hx hb dL_law_159 (lv_at hl 6 rfl) ?_
    refine lv_iconst (v := nI 4) hx hb dL_law_161 (by decide) ?_
    refine fr_iald (k := 202) (f := vwT Z) hx hb hK hP (by decide) rfl (by omega) (by decide) dL_law_162 ?_
    refine lv_teq (vwT_at (by omega)) ?_
    refine lv_teq (hg).1.2.1 ?_
    refine lv_bipush (v := nI 10) hx hb dL_law_163 (by decide) ?_
    refine lv_icmp_geN (tgt := 341) hx hb (by omega) (by omega) dL_law_165 (by decide) (fun c165 => ?_) (fun c165 => ?_)
    · have hn22 : 2 ≤ n := by omega
      have hkn := hkn9 hn22
      refine lv_iload hx hb dL_law_341 (lv_at hl 3 rfl) ?_
      refine lv_bipush (v := nI 8) hx hb dL_law_343 (by decide) ?_
      refine lv_icmp_geN (tgt := 444) hx hb (by omega) (by omega) dL_law_345 (by decide) (fun c345 => ?_) (fun c345 => ?_)
      · exfalso; omega
      · have hl := lv_sub (l' := [(12, .int (nI 1)), (11, .int (nI i9)), (10, .int (nI k9)), (9, .int (nI kd)), (8, .int (hv)), (7, .int (nI e9)), (6, .ref (ad 202)), (5, .ref (ad 201)), (4, .ref (ad 200)), (3, .ref (ad 199)), (2, .ref (ad 198)), (1, .ref (ad 0)), (0, .ref b)]) hl [0, 1, 2, 3, 4, 5, 6, 7, 8, 9, 10, 11, 12] rfl
        exact lc_plug hx hb hml hown htg hK hI hA0 hE hJ he9 hkn hn22 c0 s0 (by omega) (by omega) kkT hP hS hl
    · have hl := lv_sub (l' := [(12, .int (nI 1)), (11, .int (nI i9)), (10, .int (nI k9)), (9, .int (nI kd)), (8, .int (hv)), (7, .int (nI e9)), (6, .ref (ad 202)), (5, .ref (ad 201)), (4, .ref (ad 200)), (3, .ref (ad 199)), (2, .ref (ad 198)), (1, .ref (ad 0)), (0, .ref b)]) hl [0, 1, 2, 3, 4, 5, 6, 7, 8, 9, 10, 11, 12] rfl
      exact lc_add hx hb hml hown htg hK hI hA0 hE hJ he9 (by omega) c0 s0 (by omega) (by omega) kkT hP hS hl
  · refine lv_aload hx hb dL_law_151 (lv_at hl 6 rfl) ?_
    refine lv_iconst (v := nI 4) hx hb dL_law_153 (by decide) ?_
    refine fr_iald (k := 202) (f := vwT Z) hx hb hK hP (by decide) rfl (by omega) (by decide) dL_law_154 ?_
    refine lv_teq (vwT_at (by omega)) ?_
    refine lv_teq (hg).1.2.1 ?_
    refine lv_iconst (v := nI 2) hx hb dL_law_155 (by decide) ?_
    refine lv_icmp_geN (tgt := 341) hx hb (by omega) (by omega) dL_law_156 (by decide) (fun c156 => ?_) (fun c156 => ?_)
    · have hn22 : 2 ≤ n := by omega
      have hkn := hkn9 hn22
      refine lv_iload hx hb dL_law_341 (lv_at hl 3 rfl) ?_
      refine lv_bipush (v := nI 8) hx hb dL_law_343 (by decide) ?_
      refine lv_icmp_geN (tgt := 444) hx hb (by omega) (by omega) dL_law_345 (by decide) (fun c345 => ?_) (fun c345 => ?_)
      · refine lv_iload hx hb dL_law_444 (lv_at hl 3 rfl) ?_
        refine lv_bipush (v := nI 8) hx hb dL_law_446 (by decide) ?_
        refine lv_icmp_neN (tgt := 513) hx hb (by omega) (by omega) dL_law_448 (by decide) (fun c448 => ?_) (fun c448 => ?_)
        · refine lv_iload hx hb dL_law_513 (lv_at hl 3 rfl) ?_
          refine lv_bipush (v := nI 9) hx hb dL_law_515 (by decide) ?_
          refine lv_icmp_neN (tgt := 568) hx hb (by omega) (by omega) dL_law_517 (by decide) (fun c517 => ?_) (fun c517 => ?_)
          · refine lv_iload hx hb dL_law_568 (lv_at hl 3 rfl) ?_
            refine lv_bipush (v := nI 10) hx hb dL_law_570 (by decide) ?_
            refine lv_icmp_neN (tgt := 646) hx hb (by omega) (by omega) dL_law_572 (by decide) (fun c572 => ?_) (fun c572 => ?_)
            · refine lv_iload hx hb dL_law_646 (lv_at hl 3 rfl) ?_
              refine lv_bipush (v := nI 11) hx hb dL_law_648 (by decide) ?_
              refine lv_icmp_neN (tgt := 771) hx hb (by omega) (by omega) dL_law_650 (by decide) (fun c650 => ?_) (fun c650 => ?_)
              · refine lv_iload hx hb dL_law_771 (lv_at hl 3 rfl) ?_
                refine lv_bipush (v := nI 12) hx hb dL_law_773 (by decide) ?_
                refine lv_icmp_neN (tgt := 827) hx hb (by omega) (by omega) dL_law_775 (by decide) (fun c775 => ?_) (fun c775 => ?_)
                · refine lv_iload hx hb dL_law_827 (lv_at hl 3 rfl) ?_
                  refine lv_bipush (v := nI 13) hx hb dL_law_829 (by decide) ?_
                  refine lv_icmp_neN (tgt := 940) hx hb (by omega) (by omega) dL_law_831 (by decide) (fun c831 => ?_) (fun c831 => ?_)
                  · have hl := lv_sub (l' := [(12, .int (nI 1)), (11, .int (nI i9)), (10, .int (nI k9)), (9, .int (nI kd)), (8, .int (hv)), (7, .int (nI e9)), (6, .ref (ad 202)), (5, .ref (ad 201)), (4, .ref (ad 200)), (3, .ref (ad 199)), (2, .ref (ad 198)), (1, .ref (ad 0)), (0, .ref b)]) hl [0, 1, 2, 3, 4, 5, 6, 7, 8, 9, 10, 11, 12] rfl
                    exact lc_pass hx hb hml hown htg hK hI hA0 hE hJ he9 hn22 c0 s0 (by omega) (by omega) kkT hP hS hl
                  · have hl := lv_sub (l' := [(12, .int (nI 1)), (11, .int (nI i9)), (10, .int (nI k9)), (9, .int (nI kd)), (8, .int (hv)), (7, .int (nI e9)), (6, .ref (ad 202)), (5, .ref (ad 201)), (4, .ref (ad 200)), (3, .ref (ad 199)), (2, .ref (ad 198)), (1, .ref (ad 0)), (0, .ref b)]) hl [0, 1, 2, 3, 4, 5, 6, 7, 8, 9, 10, 11, 12] rfl
                    exact lc_set hx hb hml hown htg hK hI hA0 hE hJ he9 hn22 c0 s0 (by omega) (by omega) kkT hP hS hl
                · have hl := lv_sub (l' := [(12, .int (nI 1)), (11, .int (nI i9)), (10, .int (nI k9)), (9, .int (nI kd)), (8, .int (hv)), (7, .int (nI e9)), (6, .ref (ad 202)), (5, .ref (ad 201)), (4, .ref (ad 200)), (3, .ref (ad 199)), (2, .ref (ad 198)), (1, .ref (ad 0)), (0, .ref b)]) hl [0, 1, 2, 3, 4, 5, 6, 7, 8, 9, 10, 11, 12] rfl
                  exact lc_over hx hb hml hown htg hK hI hA0 hE hJ he9 hn22 c0 s0 (by omega) (by omega) kkT hP hS hl
              · refine lv_aload hx hb dL_law_653 (lv_at hl 8 rfl) ?_
                refine lv_iconst (v := nI 5) hx hb dL_law_655 (by decide) ?_
                refine lv_iload hx hb dL_law_656 (lv_at hl 1 rfl) ?_
                refine lv_imulN hx hb dL_law_658 ?_
                refine lv_iconst (v := nI 1) hx hb dL_law_659 (by decide) ?_
                refine lv_iaddN hx hb dL_law_660 ?_
                refine fr_iald (k := 200) (f := vwB Z) hx hb hK hP (by decide) rfl (by omega) (by decide) dL_law_661 ?_
                refine lv_teq (vwB_at (by omega) (by omega)) ?_
                refine lv_if_ne (tgt := 771) hx hb dL_law_662 (by decide) (fun c662 => ?_) (fun c662 => ?_)
                · refine lv_iload hx hb dL_law_771 (lv_at hl 3 rfl) ?_
                  refine lv_bipush (v := nI 12) hx hb dL_law_773 (by decide) ?_
                  refine lv_icmp_ne (tgt := 827) hx hb dL_law_775 (by decide) (fun _ => ?_) (fun h => absurd h (fun h9 => absurd (nI_j (by omega) (by omega) h9) (by omega)))
                  refine lv_iload hx hb dL_law_827 (lv_at hl 3 rfl) ?_
                  refine lv_bipush (v := nI 13) hx hb dL_law_829 (by decide) ?_
                  refine lv_icmp_ne (tgt := 940) hx hb dL_law_831 (by decide) (fun _ => ?_) (fun h => absurd h (fun h9 => absurd (nI_j (by omega) (by omega) h9) (by omega)))
                  have hl := lv_sub (l' := [(12, .int (nI 1)), (11, .int (nI i9)), (10, .int (nI k9)), (9, .int (nI kd)), (8, .int (hv)), (7, .int (nI e9)), (6, .ref (ad 202)), (5, .ref (ad 201)), (4, .ref (ad 200)), (3, .ref (ad 199)), (2, .ref (ad 198)), (1, .ref (ad 0)), (0, .ref b)]) hl [0, 1, 2, 3, 4, 5, 6, 7, 8, 9, 10, 11, 12] rfl
                  exact lc_pass hx hb hml hown htg hK hI hA0 hE hJ he9 hn22 c0 s0 (by omega) (by omega) kkT hP hS hl
                · have hl := lv_sub (l' := [(12, .int (nI 1)), (11, .int (nI i9)), (10, .int (nI k9)), (9, .int (nI kd)), (8, .int (hv)), (7, .int (nI e9)), (6, .ref (ad 202)), (5, .ref (ad 201)), (4, .ref (ad 200)), (3, .ref (ad 199)), (2, .ref (ad 198)), (1, .ref (ad 0)), (0, .ref b)]) hl [0, 1, 2, 3, 4, 5, 6, 7, 8, 9, 10, 11, 12] rfl
                  exact lc_reset hx hb hml hown htg hK hI hA0 hE hJ he9 hi4 hn22 c662 c0 s0 (by omega) (by omega) kkT hP hS hl
            · have hl := lv_sub (l' := [(12, .int (nI 1)), (11, .int (nI i9)), (10, .int (nI k9)), (9, .int (nI kd)), (8, .int (hv)), (7, .int (nI e9)), (6, .ref (ad 202)), (5, .ref (ad 201)), (4, .ref (ad 200)), (3, .ref (ad 199)), (2, .ref (ad 198)), (1, .ref (ad 0)), (0, .ref b)]) hl [0, 1, 2, 3, 4, 5, 6, 7, 8, 9, 10, 11, 12] rfl
              exact lc_bound hx hb hml hown htg hK hI hA0 hE hJ he9 hi4 hn22 c0 s0 (by omega) (by omega) kkT hP hS hl
          · have hl := lv_sub (l' := [(12, .int (nI 1)), (11, .int (nI i9)), (10, .int (nI k9)), (9, .int (nI kd)), (8, .int (hv)), (7, .int (nI e9)), (6, .ref (ad 202)), (5, .ref (ad 201)), (4, .ref (ad 200)), (3, .ref (ad 199)), (2, .ref (ad 198)), (1, .ref (ad 0)), (0, .ref b)]) hl [0, 1, 2, 3, 4, 5, 6, 7, 8, 9, 10, 11, 12] rfl
            exact lc_shed hx hb hml hown htg hK hI hA0 hE hJ he9 hkn hn22 c0 s0 (by omega) (by omega) kkT hP hS hl
        · refine lv_aload_n hx hb dL_law_451 rfl (lv_at hl 10 rfl) ?_
          refine lv_bipush (v := nI 6) hx hb dL_law_452 (by decide) ?_
          refine lv_iload hx hb dL_law_454 (lv_at hl 2 rfl) ?_
          refine lv_imulN hx hb dL_law_456 ?_
          refine lv_iconst (v := nI 4) hx hb dL_law_457 (by decide) ?_
          refine lv_iaddN hx hb dL_law_458 ?_
          refine fr_iald (k := 198) (f := vwA Z) hx hb hK hP (by decide) rfl (by omega) (by decide) dL_law_459 ?_
          refine lv_teq (vwA_at (by omega) (by omega)) ?_
          refine lv_ifltR (tgt := 513) hx hb dL_law_460 (by decide) (fun c460 => ?_) (fun c460 => ?_)
          · refine lv_iload hx hb dL_law_513 (lv_at hl 3 rfl) ?_
            refine lv_bipush (v := nI 9) hx hb dL_law_515 (by decide) ?_
            refine lv_icmp_ne (tgt := 568) hx hb dL_law_517 (by decide) (fun _ => ?_) (fun h => absurd h (fun h9 => absurd (nI_j (by omega) (by omega) h9) (by omega)))
            refine lv_iload hx hb dL_law_568 (lv_at hl 3 rfl) ?_
            refine lv_bipush (v := nI 10) hx hb dL_law_570 (by decide) ?_
            refine lv_icmp_ne (tgt := 646) hx hb dL_law_572 (by decide) (fun _ => ?_) (fun h => absurd h (fun h9 => absurd (nI_j (by omega) (by omega) h9) (by omega)))
            refine lv_iload hx hb dL_law_646 (lv_at hl 3 rfl) ?_
            refine lv_bipush (v := nI 11) hx hb dL_law_648 (by decide) ?_
            refine lv_icmp_ne (tgt := 771) hx hb dL_law_650 (by decide) (fun _ => ?_) (fun h => absurd h (fun h9 => absurd (nI_j (by omega) (by omega) h9) (by omega)))
            refine lv_iload hx hb dL_law_771 (lv_at hl 3 rfl) ?_
            refine lv_bipush (v := nI 12) hx hb dL_law_773 (by decide) ?_
            refine lv_icmp_ne (tgt := 827) hx hb dL_law_775 (by decide) (fun _ => ?_) (fun h => absurd h (fun h9 => absurd (nI_j (by omega) (by omega) h9) (by omega)))
            refine lv_iload hx hb dL_law_827 (lv_at hl 3 rfl) ?_
            refine lv_bipush (v := nI 13) hx hb dL_law_829 (by decide) ?_
            refine lv_icmp_ne (tgt := 940) hx hb dL_law_831 (by decide) (fun _ => ?_) (fun h => absurd h (fun h9 => absurd (nI_j (by omega) (by omega) h9) (by omega)))
            have hl := lv_sub (l' := [(12, .int (nI 1)), (11, .int (nI i9)), (10, .int (nI k9)), (9, .int (nI kd)), (8, .int (hv)), (7, .int (nI e9)), (6, .ref (ad 202)), (5, .ref (ad 201)), (4, .ref (ad 200)), (3, .ref (ad 199)), (2, .ref (ad 198)), (1, .ref (ad 0)), (0, .ref b)]) hl [0, 1, 2, 3, 4, 5, 6, 7, 8, 9, 10, 11, 12] rfl
            exact lc_pass hx hb hml hown htg hK hI hA0 hE hJ he9 hn22 c0 s0 (by omega) (by omega) kkT hP hS hl
          · refine lv_iload hx hb dL_law_463 (lv_at hl 4 rfl) ?_
            refine lv_bipush (v := nI 11) hx hb dL_law_465 (by decide) ?_
            refine lv_ishr hx hb dL_law_467 ?_
            refine lv_iconst (v := nI 2) hx hb dL_law_468 (by decide) ?_
            refine nw_Sr (N1 := 5) (nm := (fun z => 198 + z)) (ce1 := lwc ct Z r) (ce1' := lwc ct Z r) (ce' := pcw O (lwc ct Z r)) (As := [.int (hv >>> ((nI 11) &&& 31)), .int (nI 2)]) (rest := []) hx hb hml hown htg hK hI hP hS hA0 hl.1 p203 pinj pcr pcr (fun _ _ _ => rfl) (mL_low l D ct (fun z => ad ((fun z => 198 + z) z)) Z r (hv >>> ((nI 11) &&& 31)) 2 (by omega) (by omega)) cw_L_62 rfl rfl ⟨Nat.le_of_ble_eq_true rfl, Nat.le_of_ble_eq_true rfl⟩ (Nat.le_of_ble_eq_true rfl) dL_law_469 ⟨(show c0 ≤ 600104 by omega), (show s0 ≤ 7301314 by omega)⟩ (fun H locs hP hS => ?_)
            have hlo := @loN_lt (hv >>> ((nI 11) &&& 31)) 2 (by omega)
            refine lv_ifneN (tgt := 513) hx hb (by omega) dL_law_472 (by decide) (fun c472 => ?_) (fun c472 => ?_)
            · refine lv_iload hx hb dL_law_513 (lv_at hl 3 rfl) ?_
              refine lv_bipush (v := nI 9) hx hb dL_law_515 (by decide) ?_
              refine lv_icmp_ne (tgt := 568) hx hb dL_law_517 (by decide) (fun _ => ?_) (fun h => absurd h (fun h9 => absurd (nI_j (by omega) (by omega) h9) (by omega)))
              refine lv_iload hx hb dL_law_568 (lv_at hl 3 rfl) ?_
              refine lv_bipush (v := nI 10) hx hb dL_law_570 (by decide) ?_
              refine lv_icmp_ne (tgt := 646) hx hb dL_law_572 (by decide) (fun _ => ?_) (fun h => absurd h (fun h9 => absurd (nI_j (by omega) (by omega) h9) (by omega)))
              refine lv_iload hx hb dL_law_646 (lv_at hl 3 rfl) ?_
              refine lv_bipush (v := nI 11) hx hb dL_law_648 (by decide) ?_
              refine lv_icmp_ne (tgt := 771) hx hb dL_law_650 (by decide) (fun _ => ?_) (fun h => absurd h (fun h9 => absurd (nI_j (by omega) (by omega) h9) (by omega)))
              refine lv_iload hx hb dL_law_771 (lv_at hl 3 rfl) ?_
              refine lv_bipush (v := nI 12) hx hb dL_law_773 (by decide) ?_
              refine lv_icmp_ne (tgt := 827) hx hb dL_law_775 (by decide) (fun _ => ?_) (fun h => absurd h (fun h9 => absurd (nI_j (by omega) (by omega) h9) (by omega)))
              refine lv_iload hx hb dL_law_827 (lv_at hl 3 rfl) ?_
              refine lv_bipush (v := nI 13) hx hb dL_law_829 (by decide) ?_
              refine lv_icmp_ne (tgt := 940) hx hb dL_law_831 (by decide) (fun _ => ?_) (fun h => absurd h (fun h9 => absurd (nI_j (by omega) (by omega) h9) (by omega)))
              have hl := lv_sub (l' := [(12, .int (nI 1)), (11, .int (nI i9)), (10, .int (nI k9)), (9, .int (nI kd)), (8, .int (hv)), (7, .int (nI e9)), (6, .ref (ad 202)), (5, .ref (ad 201)), (4, .ref (ad 200)), (3, .ref (ad 199)), (2, .ref (ad 198)), (1, .ref (ad 0)), (0, .ref b)]) hl [0, 1, 2, 3, 4, 5, 6, 7, 8, 9, 10, 11, 12] rfl
              exact lc_pass hx hb hml hown htg hK hI hA0 hE hJ he9 hn22 c0 s0 (by omega) (by omega) kkT hP hS hl
            · have hl := lv_sub (l' := [(12, .int (nI 1)), (11, .int (nI i9)), (10, .int (nI k9)), (9, .int (nI kd)), (8, .int (hv)), (7, .int (nI e9)), (6, .ref (ad 202)), (5, .ref (ad 201)), (4, .ref (ad 200)), (3, .ref (ad 199)), (2, .ref (ad 198)), (1, .ref (ad 0)), (0, .ref b)]) hl [0, 1, 2, 3, 4, 5, 6, 7, 8, 9, 10, 11, 12] rfl
              exact lc_pull hx hb hml hown htg hK hI hA0 hE hJ he9 hkn hn22 (fun h9 => Int32.not_lt.mpr c460 ((sk_neg hg.1 hkn).mpr h9)) c0 s0 (by omega) (by omega) kkT hP hS hl
      · have hl := lv_sub (l' := [(12, .int (nI 1)), (11, .int (nI i9)), (10, .int (nI k9)), (9, .int (nI kd)), (8, .int (hv)), (7, .int (nI e9)), (6, .ref (ad 202)), (5, .ref (ad 201)), (4, .ref (ad 200)), (3, .ref (ad 199)), (2, .ref (ad 198)), (1, .ref (ad 0)), (0, .ref b)]) hl [0, 1, 2, 3, 4, 5, 6, 7, 8, 9, 10, 11, 12] rfl
        exact lc_plug hx hb hml hown htg hK hI hA0 hE hJ he9 hkn hn22 c0 s0 (by omega) (by omega) kkT hP hS hl
    · refine lv_aload hx hb dL_law_159 (lv_at hl 6 rfl) ?_
      refine lv_iconst (v := nI 4) hx hb dL_law_161 (by decide) ?_
      refine fr_iald (k := 202) (f := vwT Z) hx hb hK hP (by decide) rfl (by omega) (by decide) dL_law_162 ?_
      refine lv_teq (vwT_at (by omega)) ?_
      refine lv_teq (hg).1.2.1 ?_
      refine lv_bipush (v := nI 10) hx hb dL_law_163 (by decide) ?_
      refine lv_icmp_geN (tgt := 341) hx hb (by omega) (by omega) dL_law_165 (by decide) (fun c165 => ?_) (fun c165 => ?_)
      · have hn22 : 2 ≤ n := by omega
        have hkn := hkn9 hn22
        refine lv_iload hx hb dL_law_341 (lv_at hl 3 rfl) ?_
        refine lv_bipush (v := nI 8) hx hb dL_law_343 (by decide) ?_
        refine lv_icmp_geN (tgt := 444) hx hb (by omega) (by omega) dL_law_345 (by decide) (fun c345 => ?_) (fun c345 => ?_)
        · refine lv_iload hx hb dL_law_444 (lv_at hl 3 rfl) ?_
          refine lv_bipush (v := nI 8) hx hb dL_law_446 (by decide) ?_
          refine lv_icmp_neN (tgt := 513) hx hb (by omega) (by omega) dL_law_448 (by decide) (fun c448 => ?_) (fun c448 => ?_)
          · refine lv_iload hx hb dL_law_513 (lv_at hl 3 rfl) ?_
            refine lv_bipush (v := nI 9) hx hb dL_law_515 (by decide) ?_
            refine lv_icmp_neN (tgt := 568) hx hb (by omega) (by omega) dL_law_517 (by decide) (fun c517 => ?_) (fun c517 => ?_)
            · refine lv_iload hx hb dL_law_568 (lv_at hl 3 rfl) ?_
              refine lv_bipush (v := nI 10) hx hb dL_law_570 (by decide) ?_
              refine lv_icmp_neN (tgt := 646) hx hb (by omega) (by omega) dL_law_572 (by decide) (fun c572 => ?_) (fun c572 => ?_)
              · refine lv_iload hx hb dL_law_646 (lv_at hl 3 rfl) ?_
                refine lv_bipush (v := nI 11) hx hb dL_law_648 (by decide) ?_
                refine lv_icmp_neN (tgt := 771) hx hb (by omega) (by omega) dL_law_650 (by decide) (fun c650 => ?_) (fun c650 => ?_)
                · refine lv_iload hx hb dL_law_771 (lv_at hl 3 rfl) ?_
                  refine lv_bipush (v := nI 12) hx hb dL_law_773 (by decide) ?_
                  refine lv_icmp_neN (tgt := 827) hx hb (by omega) (by omega) dL_law_775 (by decide) (fun c775 => ?_) (fun c775 => ?_)
                  · refine lv_iload hx hb dL_law_827 (lv_at hl 3 rfl) ?_
                    refine lv_bipush (v := nI 13) hx hb dL_law_829 (by decide) ?_
                    refine lv_icmp_neN (tgt := 940) hx hb (by omega) (by omega) dL_law_831 (by decide) (fun c831 => ?_) (fun c831 => ?_)
                    · have hl := lv_sub (l' := [(12, .int (nI 1)), (11, .int (nI i9)), (10, .int (nI k9)), (9, .int (nI kd)), (8, .int (hv)), (7, .int (nI e9)), (6, .ref (ad 202)), (5, .ref (ad 201)), (4, .ref (ad 200)), (3, .ref (ad 199)), (2, .ref (ad 198)), (1, .ref (ad 0)), (0, .ref b)]) hl [0, 1, 2, 3, 4, 5, 6, 7, 8, 9, 10, 11, 12] rfl
                      exact lc_pass hx hb hml hown htg hK hI hA0 hE hJ he9 hn22 c0 s0 (by omega) (by omega) kkT hP hS hl
                    · have hl := lv_sub (l' := [(12, .int (nI 1)), (11, .int (nI i9)), (10, .int (nI k9)), (9, .int (nI kd)), (8, .int (hv)), (7, .int (nI e9)), (6, .ref (ad 202)), (5, .ref (ad 201)), (4, .ref (ad 200)), (3, .ref (ad 199)), (2, .ref (ad 198)), (1, .ref (ad 0)), (0, .ref b)]) hl [0, 1, 2, 3, 4, 5, 6, 7, 8, 9, 10, 11, 12] rfl
                      exact lc_set hx hb hml hown htg hK hI hA0 hE hJ he9 hn22 c0 s0 (by omega) (by omega) kkT hP hS hl
                  · have hl := lv_sub (l' := [(12, .int (nI 1)), (11, .int (nI i9)), (10, .int (nI k9)), (9, .int (nI kd)), (8, .int (hv)), (7, .int (nI e9)), (6, .ref (ad 202)), (5, .ref (ad 201)), (4, .ref (ad 200)), (3, .ref (ad 199)), (2, .ref (ad 198)), (1, .ref (ad 0)), (0, .ref b)]) hl [0, 1, 2, 3, 4, 5, 6, 7, 8, 9, 10, 11, 12] rfl
                    exact lc_over hx hb hml hown htg hK hI hA0 hE hJ he9 hn22 c0 s0 (by omega) (by omega) kkT hP hS hl
                · refine lv_aload hx hb dL_law_653 (lv_at hl 8 rfl) ?_
                  refine lv_iconst (v := nI 5) hx hb dL_law_655 (by decide) ?_
                  refine lv_iload hx hb dL_law_656 (lv_at hl 1 rfl) ?_
                  refine lv_imulN hx hb dL_law_658 ?_
                  refine lv_iconst (v := nI 1) hx hb dL_law_659 (by decide) ?_
                  refine lv_iaddN hx hb dL_law_660 ?_
                  refine fr_iald (k := 200) (f := vwB Z) hx hb hK hP (by decide) rfl (by omega) (by decide) dL_law_661 ?_
                  refine lv_teq (vwB_at (by omega) (by omega)) ?_
                  refine lv_if_ne (tgt := 771) hx hb dL_law_662 (by decide) (fun c662 => ?_) (fun c662 => ?_)
                  · refine lv_iload hx hb dL_law_771 (lv_at hl 3 rfl) ?_
                    refine lv_bipush (v := nI 12) hx hb dL_law_773 (by decide) ?_
                    refine lv_icmp_ne (tgt := 827) hx hb dL_law_775 (by decide) (fun _ => ?_) (fun h => absurd h (fun h9 => absurd (nI_j (by omega) (by omega) h9) (by omega)))
                    refine lv_iload hx hb dL_law_827 (lv_at hl 3 rfl) ?_
                    refine lv_bipush (v := nI 13) hx hb dL_law_829 (by decide) ?_
                    refine lv_icmp_ne (tgt := 940) hx hb dL_law_831 (by decide) (fun _ => ?_) (fun h => absurd h (fun h9 => absurd (nI_j (by omega) (by omega) h9) (by omega)))
                    have hl := lv_sub (l' := [(12, .int (nI 1)), (11, .int (nI i9)), (10, .int (nI k9)), (9, .int (nI kd)), (8, .int (hv)), (7, .int (nI e9)), (6, .ref (ad 202)), (5, .ref (ad 201)), (4, .ref (ad 200)), (3, .ref (ad 199)), (2, .ref (ad 198)), (1, .ref (ad 0)), (0, .ref b)]) hl [0, 1, 2, 3, 4, 5, 6, 7, 8, 9, 10, 11, 12] rfl
                    exact lc_pass hx hb hml hown htg hK hI hA0 hE hJ he9 hn22 c0 s0 (by omega) (by omega) kkT hP hS hl
                  · have hl := lv_sub (l' := [(12, .int (nI 1)), (11, .int (nI i9)), (10, .int (nI k9)), (9, .int (nI kd)), (8, .int (hv)), (7, .int (nI e9)), (6, .ref (ad 202)), (5, .ref (ad 201)), (4, .ref (ad 200)), (3, .ref (ad 199)), (2, .ref (ad 198)), (1, .ref (ad 0)), (0, .ref b)]) hl [0, 1, 2, 3, 4, 5, 6, 7, 8, 9, 10, 11, 12] rfl
                    exact lc_reset hx hb hml hown htg hK hI hA0 hE hJ he9 hi4 hn22 c662 c0 s0 (by omega) (by omega) kkT hP hS hl
              · have hl := lv_sub (l' := [(12, .int (nI 1)), (11, .int (nI i9)), (10, .int (nI k9)), (9, .int (nI kd)), (8, .int (hv)), (7, .int (nI e9)), (6, .ref (ad 202)), (5, .ref (ad 201)), (4, .ref (ad 200)), (3, .ref (ad 199)), (2, .ref (ad 198)), (1, .ref (ad 0)), (0, .ref b)]) hl [0, 1, 2, 3, 4, 5, 6, 7, 8, 9, 10, 11, 12] rfl
                exact lc_bound hx hb hml hown htg hK hI hA0 hE hJ he9 hi4 hn22 c0 s0 (by omega) (by omega) kkT hP hS hl
            · have hl := lv_sub (l' := [(12, .int (nI 1)), (11, .int (nI i9)), (10, .int (nI k9)), (9, .int (nI kd)), (8, .int (hv)), (7, .int (nI e9)), (6, .ref (ad 202)), (5, .ref (ad 201)), (4, .ref (ad 200)), (3, .ref (ad 199)), (2, .ref (ad 198)), (1, .ref (ad 0)), (0, .ref b)]) hl [0, 1, 2, 3, 4, 5, 6, 7, 8, 9, 10, 11, 12] rfl
              exact lc_shed hx hb hml hown htg hK hI hA0 hE hJ he9 hkn hn22 c0 s0 (by omega) (by omega) kkT hP hS hl
          · refine lv_aload_n hx hb dL_law_451 rfl (lv_at hl 10 rfl) ?_
            refine lv_bipush (v := nI 6) hx hb dL_law_452 (by decide) ?_
            refine lv_iload hx hb dL_law_454 (lv_at hl 2 rfl) ?_
            refine lv_imulN hx hb dL_law_456 ?_
            refine lv_iconst (v := nI 4) hx hb dL_law_457 (by decide) ?_
            refine lv_iaddN hx hb dL_law_458 ?_
            refine fr_iald (k := 198) (f := vwA Z) hx hb hK hP (by decide) rfl (by omega) (by decide) dL_law_459 ?_
            refine lv_teq (vwA_at (by omega) (by omega)) ?_
            refine lv_ifltR (tgt := 513) hx hb dL_law_460 (by decide) (fun c460 => ?_) (fun c460 => ?_)
            · refine lv_iload hx hb dL_law_513 (lv_at hl 3 rfl) ?_
              refine lv_bipush (v := nI 9) hx hb dL_law_515 (by decide) ?_
              refine lv_icmp_ne (tgt := 568) hx hb dL_law_517 (by decide) (fun _ => ?_) (fun h => absurd h (fun h9 => absurd (nI_j (by omega) (by omega) h9) (by omega)))
              refine lv_iload hx hb dL_law_568 (lv_at hl 3 rfl) ?_
              refine lv_bipush (v := nI 10) hx hb dL_law_570 (by decide) ?_
              refine lv_icmp_ne (tgt := 646) hx hb dL_law_572 (by decide) (fun _ => ?_) (fun h => absurd h (fun h9 => absurd (nI_j (by omega) (by omega) h9) (by omega)))
              refine lv_iload hx hb dL_law_646 (lv_at hl 3 rfl) ?_
              refine lv_bipush (v := nI 11) hx hb dL_law_648 (by decide) ?_
              refine lv_icmp_ne (tgt := 771) hx hb dL_law_650 (by decide) (fun _ => ?_) (fun h => absurd h (fun h9 => absurd (nI_j (by omega) (by omega) h9) (by omega)))
              refine lv_iload hx hb dL_law_771 (lv_at hl 3 rfl) ?_
              refine lv_bipush (v := nI 12) hx hb dL_law_773 (by decide) ?_
              refine lv_icmp_ne (tgt := 827) hx hb dL_law_775 (by decide) (fun _ => ?_) (fun h => absurd h (fun h9 => absurd (nI_j (by omega) (by omega) h9) (by omega)))
              refine lv_iload hx hb dL_law_827 (lv_at hl 3 rfl) ?_
              refine lv_bipush (v := nI 13) hx hb dL_law_829 (by decide) ?_
              refine lv_icmp_ne (tgt := 940) hx hb dL_law_831 (by decide) (fun _ => ?_) (fun h => absurd h (fun h9 => absurd (nI_j (by omega) (by omega) h9) (by omega)))
              have hl := lv_sub (l' := [(12, .int (nI 1)), (11, .int (nI i9)), (10, .int (nI k9)), (9, .int (nI kd)), (8, .int (hv)), (7, .int (nI e9)), (6, .ref (ad 202)), (5, .ref (ad 201)), (4, .ref (ad 200)), (3, .ref (ad 199)), (2, .ref (ad 198)), (1, .ref (ad 0)), (0, .ref b)]) hl [0, 1, 2, 3, 4, 5, 6, 7, 8, 9, 10, 11, 12] rfl
              exact lc_pass hx hb hml hown htg hK hI hA0 hE hJ he9 hn22 c0 s0 (by omega) (by omega) kkT hP hS hl
            · refine lv_iload hx hb dL_law_463 (lv_at hl 4 rfl) ?_
              refine lv_bipush (v := nI 11) hx hb dL_law_465 (by decide) ?_
              refine lv_ishr hx hb dL_law_467 ?_
              refine lv_iconst (v := nI 2) hx hb dL_law_468 (by decide) ?_
              refine nw_Sr (N1 := 5) (nm := (fun z => 198 + z)) (ce1 := lwc ct Z r) (ce1' := lwc ct Z r) (ce' := pcw O (lwc ct Z r)) (As := [.int (hv >>> ((nI 11) &&& 31)), .int (nI 2)]) (rest := []) hx hb hml hown htg hK hI hP hS hA0 hl.1 p203 pinj pcr pcr (fun _ _ _ => rfl) (mL_low l D ct (fun z => ad ((fun z => 198 + z) z)) Z r (hv >>> ((nI 11) &&& 31)) 2 (by omega) (by omega)) cw_L_62 rfl rfl ⟨Nat.le_of_ble_eq_true rfl, Nat.le_of_ble_eq_true rfl⟩ (Nat.le_of_ble_eq_true rfl) dL_law_469 ⟨(show c0 ≤ 600104 by omega), (show s0 ≤ 7301314 by omega)⟩ (fun H locs hP hS => ?_)
              have hlo := @loN_lt (hv >>> ((nI 11) &&& 31)) 2 (by omega)
              refine lv_ifneN (tgt := 513) hx hb (by omega) dL_law_472 (by decide) (fun c472 => ?_) (fun c472 => ?_)
              · refine lv_iload hx hb dL_law_513 (lv_at hl 3 rfl) ?_
                refine lv_bipush (v := nI 9) hx hb dL_law_515 (by decide) ?_
                refine lv_icmp_ne (tgt := 568) hx hb dL_law_517 (by decide) (fun _ => ?_) (fun h => absurd h (fun h9 => absurd (nI_j (by omega) (by omega) h9) (by omega)))
                refine lv_iload hx hb dL_law_568 (lv_at hl 3 rfl) ?_
                refine lv_bipush (v := nI 10) hx hb dL_law_570 (by decide) ?_
                refine lv_icmp_ne (tgt := 646) hx hb dL_law_572 (by decide) (fun _ => ?_) (fun h => absurd h (fun h9 => absurd (nI_j (by omega) (by omega) h9) (by omega)))
                refine lv_iload hx hb dL_law_646 (lv_at hl 3 rfl) ?_
                refine lv_bipush (v := nI 11) hx hb dL_law_648 (by decide) ?_
                refine lv_icmp_ne (tgt := 771) hx hb dL_law_650 (by decide) (fun _ => ?_) (fun h => absurd h (fun h9 => absurd (nI_j (by omega) (by omega) h9) (by omega)))
                refine lv_iload hx hb dL_law_771 (lv_at hl 3 rfl) ?_
                refine lv_bipush (v := nI 12) hx hb dL_law_773 (by decide) ?_
                refine lv_icmp_ne (tgt := 827) hx hb dL_law_775 (by decide) (fun _ => ?_) (fun h => absurd h (fun h9 => absurd (nI_j (by omega) (by omega) h9) (by omega)))
                refine lv_iload hx hb dL_law_827 (lv_at hl 3 rfl) ?_
                refine lv_bipush (v := nI 13) hx hb dL_law_829 (by decide) ?_
                refine lv_icmp_ne (tgt := 940) hx hb dL_law_831 (by decide) (fun _ => ?_) (fun h => absurd h (fun h9 => absurd (nI_j (by omega) (by omega) h9) (by omega)))
                have hl := lv_sub (l' := [(12, .int (nI 1)), (11, .int (nI i9)), (10, .int (nI k9)), (9, .int (nI kd)), (8, .int (hv)), (7, .int (nI e9)), (6, .ref (ad 202)), (5, .ref (ad 201)), (4, .ref (ad 200)), (3, .ref (ad 199)), (2, .ref (ad 198)), (1, .ref (ad 0)), (0, .ref b)]) hl [0, 1, 2, 3, 4, 5, 6, 7, 8, 9, 10, 11, 12] rfl
                exact lc_pass hx hb hml hown htg hK hI hA0 hE hJ he9 hn22 c0 s0 (by omega) (by omega) kkT hP hS hl
              · have hl := lv_sub (l' := [(12, .int (nI 1)), (11, .int (nI i9)), (10, .int (nI k9)), (9, .int (nI kd)), (8, .int (hv)), (7, .int (nI e9)), (6, .ref (ad 202)), (5, .ref (ad 201)), (4, .ref (ad 200)), (3, .ref (ad 199)), (2, .ref (ad 198)), (1, .ref (ad 0)), (0, .ref b)]) hl [0, 1, 2, 3, 4, 5, 6, 7, 8, 9, 10, 11, 12] rfl
                exact lc_pull hx hb hml hown htg hK hI hA0 hE hJ he9 hkn hn22 (fun h9 => Int32.not_lt.mpr c460 ((sk_neg hg.1 hkn).mpr h9)) c0 s0 (by omega) (by omega) kkT hP hS hl
        · have hl := lv_sub (l' := [(12, .int (nI 1)), (11, .int (nI i9)), (10, .int (nI k9)), (9, .int (nI kd)), (8, .int (hv)), (7, .int (nI e9)), (6, .ref (ad 202)), (5, .ref (ad 201)), (4, .ref (ad 200)), (3, .ref (ad 199)), (2, .ref (ad 198)), (1, .ref (ad 0)), (0, .ref b)]) hl [0, 1, 2, 3, 4, 5, 6, 7, 8, 9, 10, 11, 12] rfl
          exact lc_plug hx hb hml hown htg hK hI hA0 hE hJ he9 hkn hn22 c0 s0 (by omega) (by omega) kkT hP hS hl
      · have hl := lv_sub (l' := [(12, .int (nI 1)), (11, .int (nI i9)), (10, .int (nI k9)), (9, .int (nI kd)), (8, .int (hv)), (7, .int (nI e9)), (6, .ref (ad 202)), (5, .ref (ad 201)), (4, .ref (ad 200)), (3, .ref (ad 199)), (2, .ref (ad 198)), (1, .ref (ad 0)), (0, .ref b)]) hl [0, 1, 2, 3, 4, 5, 6, 7, 8, 9, 10, 11, 12] rfl
        exact lc_add hx hb hml hown htg hK hI hA0 hE hJ he9 (by omega) c0 s0 (by omega) (by omega) kkT hP hS hl
theorem law_loop {p : Program} {l : Launch} {e : Env} {s : State} {m : MethodId} {below : List Frame} {meth : Method} {c : Code} {Q : State → Prop} {D : va_G} {ct : Nat → ClassId} {ad : Nat → Nat} {b : Nat} (hx : p.tables.exec = Jvm.exec) (hb : c.code = code) (hml : c.maxLocals = 16) (hown : s.vm.findClass RL = some m.cls) (htg : ∀ w ∈ wB, w.before #[Value.ref b] s = true) (hK : va_K D vwCl (fTys ct) s) (hI : fI 203 ad) (hA0 : ∀ i, i < 203 → lA s (ad i)) (hE : gE (lA s) s s.heap) {L : Nat} {xs : Nat → Int32} (hX : va_X b L xs s s.heap) (hbl : b < s.heap.size) (hL : L ≤ 260) (kend : ∀ (H : Heap) (locs : List Loc) (ls : Array Slot) (k n : Nat), k ≤ 600104 → n ≤ 7301314 → va_S (lA s) s.heap H locs → W p l e room_1 s m #[Value.ref b] below meth c H locs k n Q (F0 m 1129 ls [.int (nI 1)])) : ∀ (f e9 : Nat), e9 ≤ 52 → 52 - e9 < f → ∀ (O : Nat → va_E) (Z : Nat → Int32) (r : Int32) (n : Nat) (H : Heap) (locs : List Loc) (ls : Array Slot), LJ ct ad O Z r n e9 → fP D 203 ad (pcw O (lwc ct Z r)) H → va_S (lA s) s.heap H locs → lv_has ls 16 [(7, .int (nI e9)), (6, .ref (ad 202)), (5, .ref (ad 201)), (4, .ref (ad 200)), (3, .ref (ad 199)), (2, .ref (ad 198)), (1, .ref (ad 0)), (0, .ref b)] → W p l e room_1 s m #[Value.ref b] below meth c H locs (203 + 56 * e9) (1706 + 1500 * e9) Q (F0 m 83 ls [])
  | 0, _, _, h => absurd h (Nat.not_lt_zero _)
  | f + 1, e9, h1, h2 => by
    intro O Z r n H locs ls hJ hP hS hl
    refine lv_iload hx hb dL_law_83 (lv_at hl 0 rfl) ?_
    refine lv_bipush (v := nI 52) hx hb dL_law_85 (by decide) ?_
    refine lv_icmp_geN (tgt := 1128) hx hb (by omega) (by omega) dL_law_87 (by decide) (fun c87 => ?_) (fun c87 => ?_)
    · refine lv_iconst (v := nI 1) hx hb dL_law_1128 (by decide) ?_
      exact kend _ _ _ _ _ (by omega) (by omega) hS
    · exact lc_step hx hb hml hown htg hK hI hA0 hE hX hbl hL hJ c87 (203 + 56 * e9) (1706 + 1500 * e9) (by omega) (by omega) (fun O' Z' r' n' H locs ls hJ' hP hS hl => W_wide (by omega) (by omega) (law_loop hx hb hml hown htg hK hI hA0 hE hX hbl hL kend f (e9 + 1) (by omega) (by omega) O' Z' r' n' H locs ls hJ' hP hS hl)) hP hS hl
