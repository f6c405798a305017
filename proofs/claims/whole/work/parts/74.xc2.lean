/-! EXCEPTIONS OF THE CLASS: calls that throw -/
section XCC
variable {p : Program} {l : Launch} {e : Env} {R : Room} {s : State} {m : MethodId} {args : Array Value} {below : List Frame} {meth : Method} {c : Code} {H : Heap} {locs : List Loc}
variable {cc : ByteArray} {pc : Nat} {ls : Array Slot} {rest : List Value} {D : va_G} {ct : Nat → ClassId} {N : Nat} {ad : Nat → Nat} {ce ce' : Nat → va_E}
theorem fx_Vo {nL : Nat} {own C : String} {y : MethodName} {cy : ByteArray} {maxL : Nat} {ret : Option FieldType} {fr lo : Nat} {As st0 : List Value} {E : String} {k0 ci idx n : Nat} {fs : List Value} {q0 : vw_C}
    (hx : p.tables.exec = Jvm.exec) (hb : c.code = cc) (hml : c.maxLocals = nL) (hown : s.vm.findClass own = some m.cls) (htg : ∀ w ∈ wB, w.before args s = true) (hlocks : meth.locks = false) (hK : va_K D vwCl (fTys ct) s) (hI : fI N ad) (hP : fP D N ad ce H) (hS : va_S (fA N ad) s.heap H locs) (hl : ls.size = nL) (htb : ∀ x ∈ c.exceptionTable.toList, False) (hE : gE (fA N ad) s s.heap)
    (hM : TMet l y cy maxL ret fr lo D ct N ad (.ref (ad k0) :: As) ce E ce') (hcw : cwf own idx C y cy maxL ret n) (hk0 : k0 < N) (hce : ce k0 = .inr (ci, fs)) (hc : vwCl[ci]? = some q0) (hC : q0.1 = C)
    (hst : st0 = As.reverse ++ .ref (ad k0) :: rest) (hn : As.length = n) (hR : fr + 1 ≤ R.frames ∧ 8 + (maxL + 11) + lo ≤ R.locals) (hroom : (rest.map fun v => v.category).sum ≤ 8) (hdg : decode cc pc = .ok (.invokevirtual idx, 3)) (hf : 0 + 1 ≤ R.cells ∧ 0 + 6 ≤ R.slots) :
    W p l e R s m args below meth c H locs 0 0 (vx_MQ below (fun _ _ _ _ => False) (XF D ct N ad E ce') args s 1 6 (fA N ad)) (F0 m pc ls st0) := by
  intro T hT X
  subst hC
  rcases vx_runV (As := As) (rest := rest) (g := F0 m pc ls st0) ⟨hx, hb, hml, hown, htg⟩ hM (cwV n htg hcw.1 rfl rfl rfl hcw.2 hR) ⟨tW_blind, va_recv hK hP hc (by rw [← hce]; exact vl_get hk0), fun U hU hW => ⟨rfl, ⟨by rw [hU]; exact hP, va_K.moved hW.alike hK, hI⟩, by rw [hU]; exact hE.to hW hS.2.1⟩⟩ rfl hn hl hst (lv_room hroom) hdg hf T hT X with ⟨v, st₀, t, T', L, h0, X', hL, e1, e2, hF, st⟩ | ⟨q, st₀, t, T', L, E9, ce9, h0, X', hL, e1, e2, ⟨hE9, ⟨hw1, hw2, hw3⟩, hz, hk⟩, hce9, hcv, hcl, st⟩
  · exact absurd hF id
  · rw [h0] at hz hk
    subst hE9
    have hS1 : va_S (fA N ad) s.heap T'.heap (locs ++ L) := ⟨Nat.le_trans hS.1 (by rw [e1]; exact hz), fun q h1 h2 => by rw [e1, hk q (Nat.lt_of_lt_of_le h1 hS.1) h2]; exact hS.2.1 q h1 h2, fun q hq => by
      rcases List.mem_append.mp hq with h | h
      · exact hS.2.2 q h
      · exact hL q h⟩
    obtain ⟨t2, a1, b1⟩ := vx_out (p := p) (l := l) (e := e) (R := R) (s := s) (m := m) (args := args) (below := below) (meth := meth) (c := c) (H := T'.heap) (locs := locs ++ L) (cells := 0 + 1) (slots := 0 + 6) (Qc := fun _ _ _ _ => False) (XC := XF D ct N ad E9 ce') (free := fA N ad) (mc := 1) (ms := 6) (pc := pc) (ls := ls) (rest := rest) (E := E9) (ce := ce9) (q := q) (fun x hx1 => absurd hx1 (fun h => htb x h)) hlocks (by rw [e1]; exact hce9) hcv hcl (fun t9 ht9 hA => ⟨rfl, ⟨by rw [ht9, e1]; exact hw1, va_K.moved hA hK, hI⟩, by rw [ht9]; exact hS1.1, fun z h1 h2 => by rw [ht9]; exact hS1.2.1 z h1 h2⟩) hS1.2.2 (Nat.le_refl _) (Nat.le_refl _) T' rfl X'
    exact ⟨t2, st.trans a1, b1⟩
theorem fx_So {nL : Nat} {own : String} {y : MethodName} {cy : ByteArray} {maxL : Nat} {ret : Option FieldType} {fr lo : Nat} {As st0 : List Value} {E : String} {idx n : Nat}
    (hx : p.tables.exec = Jvm.exec) (hb : c.code = cc) (hml : c.maxLocals = nL) (hown : s.vm.findClass own = some m.cls) (htg : ∀ w ∈ wB, w.before args s = true) (hlocks : meth.locks = false) (hK : va_K D vwCl (fTys ct) s) (hI : fI N ad) (hP : fP D N ad ce H) (hS : va_S (fA N ad) s.heap H locs) (hl : ls.size = nL) (htb : ∀ x ∈ c.exceptionTable.toList, False) (hE : gE (fA N ad) s s.heap)
    (hM : TMet l y cy maxL ret fr lo D ct N ad As ce E ce') (hcw : cwg own idx y cy maxL ret n)
    (hst : st0 = As.reverse ++ rest) (hn : As.length = n) (hR : fr + 1 ≤ R.frames ∧ 8 + (maxL + 11) + lo ≤ R.locals) (hroom : (rest.map fun v => v.category).sum ≤ 8) (hdg : decode cc pc = .ok (.invokestatic idx, 3)) (hf : 0 + 1 ≤ R.cells ∧ 0 + 6 ≤ R.slots) :
    W p l e R s m args below meth c H locs 0 0 (vx_MQ below (fun _ _ _ _ => False) (XF D ct N ad E ce') args s 1 6 (fA N ad)) (F0 m pc ls st0) := by
  intro T hT X
  rcases vx_runS (As := As) (rest := rest) (g := F0 m pc ls st0) ⟨hx, hb, hml, hown, htg⟩ hM (va_cwS n htg hcw.1 rfl rfl rfl hcw.2 hR) ⟨tW_blind, fun U hU hW => ⟨rfl, ⟨by rw [hU]; exact hP, va_K.moved hW.alike hK, hI⟩, by rw [hU]; exact hE.to hW hS.2.1⟩⟩ rfl hn hl hst (lv_room hroom) hdg hf T hT X with ⟨v, st₀, t, T', L, h0, X', hL, e1, e2, hF, st⟩ | ⟨q, st₀, t, T', L, E9, ce9, h0, X', hL, e1, e2, ⟨hE9, ⟨hw1, hw2, hw3⟩, hz, hk⟩, hce9, hcv, hcl, st⟩
  · exact absurd hF id
  · rw [h0] at hz hk
    subst hE9
    have hS1 : va_S (fA N ad) s.heap T'.heap (locs ++ L) := ⟨Nat.le_trans hS.1 (by rw [e1]; exact hz), fun q h1 h2 => by rw [e1, hk q (Nat.lt_of_lt_of_le h1 hS.1) h2]; exact hS.2.1 q h1 h2, fun q hq => by
      rcases List.mem_append.mp hq with h | h
      · exact hS.2.2 q h
      · exact hL q h⟩
    obtain ⟨t2, a1, b1⟩ := vx_out (p := p) (l := l) (e := e) (R := R) (s := s) (m := m) (args := args) (below := below) (meth := meth) (c := c) (H := T'.heap) (locs := locs ++ L) (cells := 0 + 1) (slots := 0 + 6) (Qc := fun _ _ _ _ => False) (XC := XF D ct N ad E9 ce') (free := fA N ad) (mc := 1) (ms := 6) (pc := pc) (ls := ls) (rest := rest) (E := E9) (ce := ce9) (q := q) (fun x hx1 => absurd hx1 (fun h => htb x h)) hlocks (by rw [e1]; exact hce9) hcv hcl (fun t9 ht9 hA => ⟨rfl, ⟨by rw [ht9, e1]; exact hw1, va_K.moved hA hK, hI⟩, by rw [ht9]; exact hS1.1, fun z h1 h2 => by rw [ht9]; exact hS1.2.1 z h1 h2⟩) hS1.2.2 (Nat.le_refl _) (Nat.le_refl _) T' rfl X'
    exact ⟨t2, st.trans a1, b1⟩
end XCC
