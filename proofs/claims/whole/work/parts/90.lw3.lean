/-! THE LAW: both objects, calls -/
/-- the law's own new cells -/
abbrev lA (s : State) : Nat → Prop := fun q => s.heap.size ≤ q
def LF (D : va_G) (ct : Nat → ClassId) (cL : ClassId) (ad ad6 : Nat → Nat) (s : State) : Prop := va_K D vwCl (lTys ct cL) s ∧ fI 199 ad ∧ fI 8 ad6 ∧ (∀ i j, i < 199 → j < 8 → ad i ≠ ad6 j) ∧ (∀ i, i < 199 → lA s (ad i)) ∧ (∀ j, j < 8 → lA s (ad6 j)) ∧ gE (lA s) s s.heap ∧ lE s
def LW (D : va_G) (cL : ClassId) (ad ad6 : Nat → Nat) (ce : Nat → va_E) (v : Int64) (ce6 : Nat → va_E) (H : Heap) : Prop := fP D 199 ad (oc cL ce v) H ∧ fP D 8 ad6 ce6 H
theorem CS.h5 {ct : Nat → ClassId} {ad ad6 : Nat → Nat} {ce ce6 : Nat → va_E} (h : CS ct ad ad6 ce ce6) : ∃ fs, ce 0 = .inr (5, fs) := by
  obtain ⟨Ms, kp, nx, sz, B, A, tn, p9, kd, Z, g, hs, F, n, rfl, rfl, -⟩ := h
  exact ⟨_, rfl⟩
theorem CS.h6 {ct : Nat → ClassId} {ad ad6 : Nat → Nat} {ce ce6 : Nat → va_E} (h : CS ct ad ad6 ce ce6) : ∃ fs, ce6 0 = .inr (6, fs) := by
  obtain ⟨Ms, kp, nx, sz, B, A, tn, p9, kd, Z, g, hs, F, n, rfl, rfl, -⟩ := h
  exact ⟨_, rfl⟩
def cwo (own : String) (idx : Nat) (y : MethodName) (cc : ByteArray) (maxL : Nat) (hh : List (Nat × Nat × Nat × Nat)) (n : Nat) : Prop := GoodIn wB (va_wsS own idx y (Cond.codeWith y cc maxL (some .int) hh :: wB)) ∧ (y.cls ≠ "java/lang/invoke/MethodHandle" ∧ y.cls ≠ "java/lang/invoke/VarHandle" ∧ (parseMethodDescriptor y.desc).map (fun d => d.parameters.length) = some n)
theorem wB_SW {own : String} {idx : Nat} {y : MethodName} {cc : ByteArray} {n : Nat} {hh : List (Nat × Nat × Nat × Nat)} (h1 : Cond.methodLink own idx y ∈ wB) (h2 : Cond.static y ∈ wB) (h4 : Cond.initialized y.cls ∈ wB) (h5 : Cond.codeWith y cc n (some .int) hh ∈ wB) : GoodIn wB (va_wsS own idx y (Cond.codeWith y cc n (some .int) hh :: wB)) := by
  intro w hw
  simp only [va_wsS, List.cons_append, List.nil_append, List.mem_cons] at hw
  rcases hw with rfl | rfl | rfl | rfl | hw
  · exact wB_self _ h1
  · exact wB_self _ h2
  · exact wB_self _ h4
  · exact wB_self _ h5
  · exact wB_self _ hw
section LAWC
variable {p : Program} {l : Launch} {e : Env} {R : Room} {s : State} {m : MethodId} {args : Array Value} {below : List Frame} {meth : Method} {c : Code} {H : Heap} {locs : List Loc} {cells slots : Nat} {Q : State → Prop}
variable {cc : ByteArray} {pc : Nat} {ls : Array Slot} {rest : List Value} {D : va_G} {ct : Nat → ClassId} {cL : ClassId} {ad ad6 : Nat → Nat} {ce ce' ce6 ce6' : Nat → va_E} {v v' : Int64}
theorem oW_blind {av : List Value} {A0 : Nat → Prop} : FrameBlind (va_Pc av (fun U => oW D ct cL ad ce v U ∧ gE A0 U U.heap ∧ lE U)) := fun a U g mk q => by
  obtain ⟨q0, ⟨qP, qK, qI⟩, qE, qL⟩ := q
  exact ⟨q0, ⟨qP, va_K.moved (u := U) (U := U.calling g mk a) (Vm.Alike.refl U.vm) qK, qI⟩, gE.to (s := U) (U := U.calling g mk a) qE (State.WarmedH.refl U) (fun _ _ _ => rfl), lE.to (s := U) (U := U.calling g mk a) qL (Vm.Alike.refl U.vm)⟩
theorem lo_S {nL : Nat} {own : String} {y : MethodName} {cy : ByteArray} {maxL idx n : Nat} {hh : List (Nat × Nat × Nat × Nat)} {av st0 : List Value} {k : Int32}
    (hx : p.tables.exec = Jvm.exec) (hb : c.code = cc) (hml : c.maxLocals = nL) (hown : s.vm.findClass own = some m.cls) (htg : ∀ w ∈ wB, w.before args s = true) (hF : LF D ct cL ad ad6 s) (hP : LW D cL ad ad6 ce v ce6 H) (hS : va_S (lA s) s.heap H locs) (hl : ls.size = nL)
    (hM : OMet l y cy maxL hh D ct cL ad av ce v k ce' v') (hcw : cwo own idx y cy maxL hh n) (hst : st0 = av.reverse ++ rest) (hn : av.length = n) (hR : 13 ≤ R.frames ∧ 8 + (maxL + 11) + 480 ≤ R.locals) (hroom : (rest.map fun v => v.category).sum ≤ 8) (hdg : decode cc pc = .ok (.invokestatic idx, 3)) (hf : cells + 1 ≤ R.cells ∧ slots + 6 ≤ R.slots)
    (kk : ∀ (H1 : Heap) (locs1 : List Loc), LW D cL ad ad6 ce' v' ce6 H1 → va_S (lA s) s.heap H1 locs1 → W p l e R s m args below meth c H1 locs1 (cells + 1) (slots + 6) Q (F0 m (pc + 3) ls (.int k :: rest))) : W p l e R s m args below meth c H locs cells slots Q (F0 m pc ls st0) := by
  intro T hT X
  obtain ⟨hK, hI, hI6, hdj, hA1, hA6, hE, hlE⟩ := hF
  have hin : ∀ q, fA 199 ad q → lA s q := fun q ⟨i, hi, e9⟩ => by rw [e9]; exact hA1 i hi
  rcases vx_runSX (As := av) (rest := rest) (g := F0 m pc ls st0) ⟨hx, hb, hml, hown, htg⟩ hM (vx_cwSW n htg hcw.1 rfl rfl rfl hcw.2 hR) ⟨oW_blind, fun U hU hW => ⟨rfl, ⟨by rw [hU]; exact hP.1, va_K.moved hW.alike hK, hI⟩, by rw [hU]; exact (hE.to hW hS.2.1).narrow hin, hlE.to hW.alike⟩⟩ rfl hn hl hst (lv_room hroom) hdg hf T hT X with ⟨v9, st₀, t, T', L, h0, X', hL, e1, e2, ⟨⟨hv, hw1, hw2, hw3⟩, hz, hk⟩, st⟩ | ⟨q, st₀, t, T', L, E9, ce9, h0, X', hL, e1, e2, hF9, hce9, hcv, hcl, st⟩
  · cases hv
    rw [h0] at hz hk
    obtain ⟨t2, a1, b1⟩ := kk T'.heap (locs ++ L) ⟨by rw [e1]; exact hw1, fP.of fun j hj => by rw [e1]; exact (hP.2.at hj).kept (hk _ (hP.2.lt hj) (fun ⟨i, hi, e9⟩ => hdj i j hi hj e9.symm))⟩
      ⟨Nat.le_trans hS.1 (by rw [e1]; exact hz), fun q h1 h2 => by rw [e1, hk q (Nat.lt_of_lt_of_le h1 hS.1) (fun z => h2 (hin q z))]; exact hS.2.1 q h1 h2, fun q hq => by
        rcases List.mem_append.mp hq with h | h
        · exact hS.2.2 q h
        · exact hin _ (hL q h)⟩ T' rfl X'
    exact ⟨t2, st t2 a1, b1⟩
  · exact absurd hF9 id
theorem lo_M {nL : Nat} {own : String} {y : MethodName} {cy : ByteArray} {maxL fr lo idx n : Nat} {ret : Option FieldType} {As st0 : List Value} {rv : Option Value}
    (hx : p.tables.exec = Jvm.exec) (hb : c.code = cc) (hml : c.maxLocals = nL) (hown : s.vm.findClass own = some m.cls) (htg : ∀ w ∈ wB, w.before args s = true) (hF : LF D ct cL ad ad6 s) (hP : LW D cL ad ad6 ce v ce6 H) (hS : va_S (lA s) s.heap H locs) (hl : ls.size = nL)
    (hM : FMet l y cy maxL ret fr lo D ct 8 ad6 (.ref (ad6 0) :: As) ce6 rv ce6') (hcw : cwf own idx RX6 y cy maxL ret n) (h6 : ∃ fs, ce6 0 = .inr (6, fs)) (hst : st0 = As.reverse ++ .ref (ad6 0) :: rest) (hn : As.length = n) (hR : fr + 1 ≤ R.frames ∧ 8 + (maxL + 11) + lo ≤ R.locals) (hroom : (rest.map fun v => v.category).sum ≤ 8) (hdg : decode cc pc = .ok (.invokevirtual idx, 3)) (hf : cells ≤ R.cells ∧ slots ≤ R.slots)
    (kk : ∀ (H1 : Heap) (locs1 : List Loc), LW D cL ad ad6 ce v ce6' H1 → va_S (lA s) s.heap H1 locs1 → W p l e R s m args below meth c H1 locs1 cells slots Q (F0 m (pc + 3) ls (rv.toList ++ rest))) : W p l e R s m args below meth c H locs cells slots Q (F0 m pc ls st0) := by
  obtain ⟨hK, hI, hI6, hdj, hA1, hA6, hE, hlE⟩ := hF
  obtain ⟨fs, h6⟩ := h6
  exact fc_V (N1 := 8) (ad1 := ad6) (k0 := 0) hx hb hml hown htg (lTys_f hK) hS hl hI6 hP.2 (fun q ⟨j, hj, e9⟩ => by rw [e9]; exact hA6 j hj) hM hcw (by decide) h6 (ci := 6) rfl rfl hst hn hR hroom hdg hf (fun H1 l1 h1 hk _ h4 => kk H1 l1 ⟨fP.of fun i hi => (hP.1.at hi).kept (hk _ (hP.1.lt hi) (fun ⟨j, hj, e9⟩ => hdj i j hi hj e9)), h1⟩ h4)
theorem lo_X {nL : Nat} {own : String} {y : MethodName} {cy : ByteArray} {maxL fr lo idx n : Nat} {ret : Option FieldType} {As st0 : List Value} {rv : Option Value}
    (hx : p.tables.exec = Jvm.exec) (hb : c.code = cc) (hml : c.maxLocals = nL) (hown : s.vm.findClass own = some m.cls) (htg : ∀ w ∈ wB, w.before args s = true) (hF : LF D ct cL ad ad6 s) (hP : LW D cL ad ad6 ce v ce6 H) (hS : va_S (lA s) s.heap H locs) (hl : ls.size = nL)
    (hM : FMet l y cy maxL ret fr lo D ct 198 ad (.ref (ad 0) :: As) ce rv ce') (hcw : cwf own idx RX5 y cy maxL ret n) (h5 : ∃ fs, ce 0 = .inr (5, fs)) (hst : st0 = As.reverse ++ .ref (ad 0) :: rest) (hn : As.length = n) (hR : fr + 1 ≤ R.frames ∧ 8 + (maxL + 11) + lo ≤ R.locals) (hroom : (rest.map fun v => v.category).sum ≤ 8) (hdg : decode cc pc = .ok (.invokevirtual idx, 3)) (hf : cells ≤ R.cells ∧ slots ≤ R.slots)
    (kk : ∀ (H1 : Heap) (locs1 : List Loc), LW D cL ad ad6 ce' v ce6 H1 → va_S (lA s) s.heap H1 locs1 → W p l e R s m args below meth c H1 locs1 cells slots Q (F0 m (pc + 3) ls (rv.toList ++ rest))) : W p l e R s m args below meth c H locs cells slots Q (F0 m pc ls st0) := by
  obtain ⟨hK, hI, hI6, hdj, hA1, hA6, hE, hlE⟩ := hF
  obtain ⟨fs, h5⟩ := h5
  exact fc_V (N1 := 198) (ad1 := ad) (k0 := 0) hx hb hml hown htg (lTys_f hK) hS hl (oc_fI hI) (oc_fP hP.1) (fun q ⟨j, hj, e9⟩ => by rw [e9]; exact hA1 j (by omega)) hM hcw (by decide) h5 (ci := 5) rfl rfl hst hn hR hroom hdg hf (fun H1 l1 h1 hk _ h4 => kk H1 l1 ⟨oc_back hI hP.1 h1 hk, fP.of fun j hj => (hP.2.at hj).kept (hk _ (hP.2.lt hj) (fun ⟨i, hi, e9⟩ => hdj i j (by omega) hj e9.symm))⟩ h4)
theorem lo_out (hx : p.tables.exec = Jvm.exec) (hb : c.code = cc) (hF : LF D ct cL ad ad6 s) (hP : LW D cL ad ad6 ce v ce6 H) (hdg : decode cc pc = .ok (.laload, 1))
    (kk : W p l e R s m args below meth c H locs cells slots Q (F0 m (pc + 1) ls (.long v :: rest))) : W p l e R s m args below meth c H locs cells slots Q (F0 m pc ls (.int 0 :: .ref (ad 198) :: rest)) :=
  va_lald hx hb hF.1 hP.1 198 6 (cA := cL) (n := 1) (f := ouF v) ((vl_get (by omega)).trans (by rw [oc_r])) rfl (show vp_in (nI 0) 1 from nI_in (by decide) (by decide)) hdg kk
theorem lw_lcmp_eq (hexec : p.tables.exec = Jvm.exec) (hb : c.code = cc) {x y : Int64} (he : x = y) (hdg : decode cc pc = .ok (.lcmp, 1))
    (k : W p l e R s m args below meth c H locs cells slots Q (F0 m (pc + 1) ls (.int 0 :: rest))) : W p l e R s m args below meth c H locs cells slots Q (F0 m pc ls (.long y :: .long x :: rest)) := by
  subst he
  intro T hT X
  obtain ⟨t, a, b⟩ := k T hT X
  refine ⟨t, ?_, b⟩
  jvm_step X.here [X.here.top, hexec, hb, hdg]
  exact a
theorem ls_ld {b L i j : Nat} {xs : Nat → Int32} (hx : p.tables.exec = Jvm.exec) (hb : c.code = cc) (hX : va_X b L xs s s.heap) (hbl : b < s.heap.size) (hS : va_S (lA s) s.heap H locs) (hj : i + j < L) (hL : L ≤ 2560) (hdg : decode cc pc = .ok (.iaload, 1))
    (kk : W p l e R s m args below meth c H locs cells slots Q (F0 m (pc + 1) ls (.int (xs (i + j)) :: rest))) : W p l e R s m args below meth c H locs cells slots Q (F0 m pc ls (.int (nI (i + j)) :: .ref b :: rest)) := by
  refine va_sld hx hb hX hbl (Nat.not_le.mpr hbl) hS (nI_in hj (by omega)) hdg ?_
  rw [nI_clamp (by omega)]
  exact kk
end LAWC
theorem lt_len {i L : Nat} (hi : i < 100000) (hL : L ≤ 2560) : (nI L - nI 5 < nI i) ↔ L < i + 5 := by
  by_cases c : 5 ≤ L
  · rw [nI_sb c, nI_ltI (by omega) (by omega)]
    omega
  · have h1 : nI L - nI 5 < 0 := by
      rcases (show L = 0 ∨ L = 1 ∨ L = 2 ∨ L = 3 ∨ L = 4 by omega) with rfl | rfl | rfl | rfl | rfl <;> decide
    refine ⟨fun _ => by omega, fun _ => ?_⟩
    rw [Int32.lt_iff_toInt_lt] at h1 ⊢
    rw [nI_toInt (by omega)]
    rw [show (0 : Int32).toInt = 0 by decide] at h1
    omega
theorem sh_eq {d : UInt64} (h : shOk d) : FP.dcmp d d = some .eq := by
  rcases h with rfl | ⟨c, k, h⟩
  · decide +kernel
  · show Jvm.FP.Core.order (Jvm.FP.Core.val64 d) (Jvm.FP.Core.val64 d) = _
    rw [h.1]
    show some (compare (((c * 2 ^ _ : Nat)) : Int) (((c * 2 ^ _ : Nat)) : Int)) = _
    exact congrArg some (Int.compare_eq_eq.mpr rfl)
/-- the start -/
theorem iM_eq : ∀ z, z < 39 → iM z = iZ z := by decide +kernel
theorem iZ_on : ∀ b, b < 4 → iZ (7 + 5 * b + 1) = nI 1 ∧ iZ (7 + 5 * b + 2) = 0 ∧ iZ (7 + 5 * b + 0) = nI 200 ∧ iZ (7 + 5 * b + 3) = 0 := by decide +kernel
theorem iZ_ov : ∀ q, q < 12 → iZ (27 + q) = 0 := by decide +kernel
theorem iZ_rI : rI iZ 0 := by
  refine ⟨⟨by omega, fun i hi => ⟨?_, ?_, ?_, fun k hk => absurd hk (by omega), fun k hk => absurd hk (by omega), fun k hk => absurd hk (by omega), fun k hk => absurd hk (by omega), fun b hb e => ?_, fun b hb e => ?_, fun b hb e => ?_, fun q hq e => ?_⟩⟩, fun b hb _ => ⟨0, by omega, by rw [(iZ_on b hb).2.1]; decide⟩, fun i j hi => absurd hi (by omega), 0, by omega, by decide +kernel, ⟨0, by omega, by decide +kernel⟩, fun k hk => absurd hk (by omega), fun b hb => ⟨0, by omega, by rw [(iZ_on b hb).2.2.2]; decide⟩⟩
  · rintro rfl; exact ⟨2, by omega, by omega, by decide +kernel⟩
  · rintro rfl; decide +kernel
  · rintro rfl; exact Or.inl (by decide +kernel)
  · subst e; exact ⟨200, by omega, by omega, (iZ_on b hb).2.2.1⟩
  · subst e; exact Or.inr (by rw [(iZ_on b hb).1]; decide)
  · subst e; exact ⟨0, by omega, by rw [(iZ_on b hb).2.1]; decide⟩
  · subst e; exact Or.inl (iZ_ov q hq)
theorem CS_0 {ct : Nat → ClassId} {ad ad6 : Nat → Nat} : CS ct ad ad6 (csc ct ad (fun _ => iM) (fun _ => 0) (nI 0) (nI 0) (fun _ => 0) (fun _ => 0) (nI 0) (nI 0) 0) (mdc ct ad6 iZ (fun _ => 0) 0 (fun _ _ => 0)) :=
  ⟨fun _ => iM, fun _ => 0, 0, 0, fun _ => 0, fun _ => 0, 0, 0, 0, iZ, fun _ => 0, 0, fun _ _ => 0, 0, rfl, rfl, fun z hz => iM_eq z hz, iZ_rI, by omega, by omega, by decide, by decide, by omega, fun j hj => absurd hj (by omega), rfl, fun s hs => ⟨rfl, fun h => absurd rfl h⟩, fun j hj => absurd hj (by omega)⟩
