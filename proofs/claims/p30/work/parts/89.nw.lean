/-! THE LAW: its rows inside a greater world; calls from there; a row copied; what makes rows -/
theorem nw_view {ct : Nat → ClassId} {Z Y : Nat → Int32} {r q : Int32} (hA : ∀ i, i < 60 → vwA Y i = vwA Z i) : vwA Y = vwA Z := by
  funext i
  by_cases c : i < 60
  · exact hA i c
  · unfold vwA; rw [if_neg c, if_neg c]
/-- the world's cells, and all that come from sz on -/
def nF (N : Nat) (ad : Nat → Nat) (sz : Nat) : Nat → Prop := fun q => fA N ad q ∨ sz ≤ q
def nP (D : va_G) (ct : Nat → ClassId) (N : Nat) (ad : Nat → Nat) (ce : Nat → va_E) (sz : Nat) (U : State) : Prop := U.heap.size = sz ∧ fW D ct N ad ce U
def nQ (D : va_G) (ct : Nat → ClassId) (N : Nat) (ad : Nat → Nat) (sz : Nat) (rv : Option Value) (ce' : Nat → va_E) : Array Value → State → Outcome → State → Prop := fun _ st oc t => (oc = .returned rv ∧ fW D ct N ad ce' t) ∧ va_F (nF N ad sz) st t
/-- a method that makes rows and leaves the world by names -/
def NMet (l : Launch) (y : MethodName) (cc : ByteArray) (maxL : Nat) (ret : Option FieldType) (fr lo mc ms : Nat) (D : va_G) (ct : Nat → ClassId) (N : Nat) (ad : Nat → Nat) (sz : Nat) (av : List Value) (ce : Nat → va_E) (rv : Option Value) (ce' : Nat → va_E) : Prop :=
  Met l y (Cond.code y cc maxL ret :: wB) ({ frames := fr, cells := mc, slots := ms, locals := lo }) (va_Pc av (nP D ct N ad ce sz)) (nQ D ct N ad sz rv ce') mc ms (nF N ad sz)
section NW
variable {p : Program} {l : Launch} {e : Env} {R : Room} {s : State} {m : MethodId} {args : Array Value} {below : List Frame} {meth : Method} {c : Code} {H : Heap} {locs : List Loc} {cells slots : Nat} {Q : State → Prop}
variable {cc : ByteArray} {pc : Nat} {ls : Array Slot} {rest : List Value} {D : va_G} {ct : Nat → ClassId} {N : Nat} {ad : Nat → Nat} {ce ce' : Nat → va_E} {Z Y : Nat → Int32} {r q : Int32} {A0 : Nat → Prop} {H0 : Heap}
theorem NMet.of {y : MethodName} {maxL : Nat} {ret : Option FieldType} {fr lo mc ms sz : Nat} {av : List Value} {rv : Option Value} (hy : plainName y.cls = true) (hlen : (lg_sl av).length ≤ maxL)
    (body : ∀ (p : Program) (e : Env) (s : State) (m : MethodId) (args : Array Value) (below : List Frame) (meth : Method) (c : Code) (ls : Array Slot), p.tables.exec = Jvm.exec → c.code = cc → meth.sig.returnType = ret → c.maxLocals = maxL → s.vm.findClass y.cls = some m.cls → meth.locks = false → (∀ w ∈ wB, w.before args s = true) → va_K D vwCl (fTys ct) s → fI N ad → fP D N ad ce s.heap → va_S (nF N ad sz) s.heap s.heap [] → s.heap.size = sz → lv_has ls maxL (lv_args 0 av) →
      W p l e ({ frames := fr, cells := mc, slots := ms, locals := lo }) s m args below meth c s.heap [] 0 0 (MQ below (nQ D ct N ad sz rv ce') args s mc ms (nF N ad sz)) (F0 m 0 ls [])) : NMet l y cc maxL ret fr lo mc ms D ct N ad sz av ce rv ce' := by
  refine Met.ofW (cc := cc) (maxL := maxL) (ret := ret) hy rfl ?_
  intro p e s m args below meth c s₁ B hml hv
  obtain ⟨rfl, hsz, hP, hK, hI⟩ := hv
  have hts := atoms_spec (ws := Cond.code y cc maxL ret :: wB) B.pre
  have hl := lv_entry av (n := maxL) hlen
  rw [lg_entry_eq]
  exact body p e s m _ below meth c _ B.exec B.bytes B.returns hml (findClass_of_methodNamed B.named) B.notSynchronized (fun w hw => hts w (List.mem_cons_of_mem _ hw)) hK hI hP va_S.rf hsz hl
theorem nw_lret {v w : Int64} {mc ms sz : Nat} (hx : p.tables.exec = Jvm.exec) (hb : c.code = cc) (hr : meth.sig.returnType = some .long) (hlocks : meth.locks = false) (hK : va_K D vwCl (fTys ct) s) (hI : fI N ad) (hS : va_S (nF N ad sz) s.heap H locs) (hdg : decode cc pc = .ok (.lreturn, 1)) (hv : v = w) (hP : fP D N ad ce' H) :
    W p l e R s m args below meth c H locs mc ms (MQ below (nQ D ct N ad sz (some (.long w)) ce') args s mc ms (nF N ad sz)) (F0 m pc ls [.long v]) := by
  subst hv
  exact W.lret hx hb hr (fun t ht hW => ⟨⟨rfl, by rw [ht]; exact hP, va_K.moved hW.alike hK, hI⟩, hS.F ht⟩) hS.2.2 hdg hlocks
theorem nw_iret {v w : Int32} {mc ms sz : Nat} {ty : FieldType} (hx : p.tables.exec = Jvm.exec) (hb : c.code = cc) (hr : meth.sig.returnType = some ty) (hlocks : meth.locks = false) (hK : va_K D vwCl (fTys ct) s) (hI : fI N ad) (hS : va_S (nF N ad sz) s.heap H locs) (hn : narrow ty (.int v) = .int v) (hdg : decode cc pc = .ok (.ireturn, 1)) (hv : v = w) (hP : fP D N ad ce' H) :
    W p l e R s m args below meth c H locs mc ms (MQ below (nQ D ct N ad sz (some (.int w)) ce') args s mc ms (nF N ad sz)) (F0 m pc ls [.int v]) := by
  subst hv
  exact W.zret hx hb hr hn (fun t ht hW => ⟨⟨rfl, by rw [ht]; exact hP, va_K.moved hW.alike hK, hI⟩, hS.F ht⟩) hS.2.2 hdg hlocks
theorem nP_blind {av : List Value} {sz : Nat} : FrameBlind (va_Pc av (nP D ct N ad ce sz)) := fun a U g mk q => by
  obtain ⟨q0, q1, qP, qK, qI⟩ := q
  exact ⟨q0, q1, qP, va_K.moved (u := U) (U := U.calling g mk a) (Vm.Alike.refl U.vm) qK, qI⟩
theorem nw_call {N1 : Nat} {ad1 : Nat → Nat} {ce1 ce1' : Nat → va_E} {nL : Nat} {own : String} {y : MethodName} {cy : ByteArray} {maxL : Nat} {ret : Option FieldType} {fr lo mc ms : Nat} {As st0 : List Value} {rv : Option Value} {idx n : Nat}
    (hx : p.tables.exec = Jvm.exec) (hb : c.code = cc) (hml : c.maxLocals = nL) (hown : s.vm.findClass own = some m.cls) (htg : ∀ w ∈ wB, w.before args s = true) (hK : va_K D vwCl (fTys ct) s) (hS : va_S A0 s.heap H locs) (hA : ∀ q, s.heap.size ≤ q → A0 q) (hl : ls.size = nL)
    (hI1 : fI N1 ad1) (hP1 : fP D N1 ad1 ce1 H) (hA1 : ∀ q, fA N1 ad1 q → A0 q) (hM : NMet l y cy maxL ret fr lo mc ms D ct N1 ad1 H.size As ce1 rv ce1') (hcw : cwg own idx y cy maxL ret n)
    (hst : st0 = As.reverse ++ rest) (hn : As.length = n) (hR : fr + 1 ≤ R.frames ∧ 8 + (maxL + 11) + lo ≤ R.locals) (hroom : (rest.map fun v => v.category).sum ≤ 8) (hdg : decode cc pc = .ok (.invokestatic idx, 3)) (hf : cells + mc ≤ R.cells ∧ slots + ms ≤ R.slots)
    (kk : ∀ (H1 : Heap) (locs1 : List Loc), fP D N1 ad1 ce1' H1 → (∀ q : Nat, q < H.size → ¬ fA N1 ad1 q → H1[q]? = H[q]?) → va_S A0 s.heap H1 locs1 → W p l e R s m args below meth c H1 locs1 (cells + mc) (slots + ms) Q (F0 m (pc + 3) ls (rv.toList ++ rest))) : W p l e R s m args below meth c H locs cells slots Q (F0 m pc ls st0) := by
  intro T hT X
  have hA2 : ∀ q, nF N1 ad1 H.size q → A0 q := fun q z => by
    rcases z with z | z
    · exact hA1 q z
    · exact hA q (Nat.le_trans hS.1 z)
  obtain ⟨v, st₀, t, T', L, h0, X', hL, e1, e2, ⟨⟨hv, hw1, hw2, hw3⟩, hz, hk⟩, st⟩ := va_runS (As := As) (rest := rest) (g := F0 m pc ls st0) ⟨hx, hb, hml, hown, htg⟩ hM (va_cwS n htg hcw.1 rfl rfl rfl hcw.2 hR) ⟨nP_blind, fun U hU hW => ⟨rfl, by rw [hU], by rw [hU]; exact hP1, va_K.moved hW.alike hK, hI1⟩⟩ rfl hn hl hst (lv_room hroom) hdg hf T hT X
  cases hv
  rw [h0] at hz hk
  have hk1 : ∀ q : Nat, q < H.size → ¬ fA N1 ad1 q → t.heap[q]? = H[q]? := fun q h1 h2 => hk q h1 (fun z => by
    rcases z with z | z
    · exact h2 z
    · omega)
  obtain ⟨t2, a1, b1⟩ := kk T'.heap (locs ++ L) (by rw [e1]; exact hw1) (fun q h1 h2 => by rw [e1]; exact hk1 q h1 h2)
    ⟨Nat.le_trans hS.1 (by rw [e1]; exact hz), fun q h1 h2 => by rw [e1, hk q (Nat.lt_of_lt_of_le h1 hS.1) (fun z => h2 (hA2 q z))]; exact hS.2.1 q h1 h2, fun q hq => by
      rcases List.mem_append.mp hq with h | h
      · exact hS.2.2 q h
      · exact hA2 _ (hL q h)⟩ T' rfl X'
  exact ⟨t2, st t2 a1, b1⟩
/-- the part of a world under other names, and back -/
theorem nw_sub {N1 : Nat} {nm : Nat → Nat} {ce1 : Nat → va_E} (hnm : ∀ z, z < N1 → nm z < N) (hce : ∀ z, z < N1 → ce (nm z) = ce1 z) (hP : fP D N ad ce H) : fP D N1 (fun z => ad (nm z)) ce1 H := fP.of fun z hz => by
  have h := hP.at (hnm z hz)
  rw [hce z hz] at h
  exact h
theorem nw_back {N1 : Nat} {nm : Nat → Nat} {ce1' : Nat → va_E} {H1 : Heap} (hI : fI N ad) (hnm : ∀ z, z < N1 → nm z < N) (he : ∀ z, z < N1 → ce' (nm z) = ce1' z) (ho : ∀ i, i < N → (∀ z, z < N1 → i ≠ nm z) → ce' i = ce i) (hP : fP D N ad ce H) (h1 : fP D N1 (fun z => ad (nm z)) ce1' H1) (hk : ∀ q : Nat, q < H.size → ¬ fA N1 (fun z => ad (nm z)) q → H1[q]? = H[q]?) : fP D N ad ce' H1 := fP.of fun i hi => by
  by_cases c : ∃ z, z < N1 ∧ i = nm z
  · obtain ⟨z, hz, rfl⟩ := c
    rw [he z hz]
    exact h1.at hz
  · rw [ho i hi (fun z hz e => c ⟨z, hz, e⟩)]
    exact (hP.at hi).kept (hk _ (hP.lt hi) (fun ⟨z, hz, e⟩ => c ⟨z, hz, hI _ _ hi (hnm z hz) e⟩))
theorem nw_fI {N1 : Nat} {nm : Nat → Nat} (hI : fI N ad) (hnm : ∀ z, z < N1 → nm z < N) (hinj : ∀ i j, i < N1 → j < N1 → nm i = nm j → i = j) : fI N1 (fun z => ad (nm z)) := fun i j hi hj e => hinj i j hi hj (hI _ _ (hnm i hi) (hnm j hj) e)
/-- a static method over a part of the world that makes nothing -/
theorem nw_S {N1 : Nat} {nm : Nat → Nat} {ce1 ce1' : Nat → va_E} {nL : Nat} {own : String} {y : MethodName} {cy : ByteArray} {maxL : Nat} {ret : Option FieldType} {fr lo : Nat} {As st0 : List Value} {rv : Option Value} {idx n : Nat}
    (hx : p.tables.exec = Jvm.exec) (hb : c.code = cc) (hml : c.maxLocals = nL) (hown : s.vm.findClass own = some m.cls) (htg : ∀ w ∈ wB, w.before args s = true) (hK : va_K D vwCl (fTys ct) s) (hI : fI N ad) (hP : fP D N ad ce H) (hS : va_S A0 H0 H locs) (hA0 : ∀ i, i < N → A0 (ad i)) (hl : ls.size = nL)
    (hnm : ∀ z, z < N1 → nm z < N) (hinj : ∀ i j, i < N1 → j < N1 → nm i = nm j → i = j) (hce : ∀ z, z < N1 → ce (nm z) = ce1 z) (he : ∀ z, z < N1 → ce' (nm z) = ce1' z) (ho : ∀ i, i < N → (∀ z, z < N1 → i ≠ nm z) → ce' i = ce i)
    (hM : FMet l y cy maxL ret fr lo D ct N1 (fun z => ad (nm z)) As ce1 rv ce1') (hcw : cwg own idx y cy maxL ret n)
    (hst : st0 = As.reverse ++ rest) (hn : As.length = n) (hR : fr + 1 ≤ R.frames ∧ 8 + (maxL + 11) + lo ≤ R.locals) (hroom : (rest.map fun v => v.category).sum ≤ 8) (hdg : decode cc pc = .ok (.invokestatic idx, 3)) (hf : cells ≤ R.cells ∧ slots ≤ R.slots)
    (kk : ∀ (H1 : Heap) (locs1 : List Loc), fP D N ad ce' H1 → va_S A0 H0 H1 locs1 → W p l e R s m args below meth c H1 locs1 cells slots Q (F0 m (pc + 3) ls (rv.toList ++ rest))) : W p l e R s m args below meth c H locs cells slots Q (F0 m pc ls st0) :=
  fc_S hx hb hml hown htg hK hS hl (nw_fI hI hnm hinj) (nw_sub hnm hce hP) (fun q9 ⟨i9, h9, e9⟩ => by rw [e9]; exact hA0 _ (hnm i9 h9)) hM hcw hst hn hR hroom hdg hf fun H1 l1 h1 hk _ h4 => kk H1 l1 (nw_back hI hnm he ho hP h1 hk) h4
/-- one that makes rows -/
theorem nw_N {N1 : Nat} {nm : Nat → Nat} {ce1 ce1' : Nat → va_E} {nL : Nat} {own : String} {y : MethodName} {cy : ByteArray} {maxL : Nat} {ret : Option FieldType} {fr lo mc ms : Nat} {As st0 : List Value} {rv : Value} {idx n : Nat}
    (hx : p.tables.exec = Jvm.exec) (hb : c.code = cc) (hml : c.maxLocals = nL) (hown : s.vm.findClass own = some m.cls) (htg : ∀ w ∈ wB, w.before args s = true) (hK : va_K D vwCl (fTys ct) s) (hI : fI N ad) (hP : fP D N ad ce H) (hS : va_S A0 s.heap H locs) (hA : ∀ q, s.heap.size ≤ q → A0 q) (hA0 : ∀ i, i < N → A0 (ad i)) (hl : ls.size = nL)
    (hnm : ∀ z, z < N1 → nm z < N) (hinj : ∀ i j, i < N1 → j < N1 → nm i = nm j → i = j) (hce : ∀ z, z < N1 → ce (nm z) = ce1 z) (he : ∀ z, z < N1 → ce' (nm z) = ce1' z) (ho : ∀ i, i < N → (∀ z, z < N1 → i ≠ nm z) → ce' i = ce i)
    (hM : NMet l y cy maxL ret fr lo mc ms D ct N1 (fun z => ad (nm z)) H.size As ce1 (some rv) ce1') (hcw : cwg own idx y cy maxL ret n)
    (hst : st0 = As.reverse ++ rest) (hn : As.length = n) (hR : fr + 1 ≤ R.frames ∧ 8 + (maxL + 11) + lo ≤ R.locals) (hroom : (rest.map fun v => v.category).sum ≤ 8) (hdg : decode cc pc = .ok (.invokestatic idx, 3)) (hf : cells + mc ≤ R.cells ∧ slots + ms ≤ R.slots)
    (kk : ∀ (H1 : Heap) (locs1 : List Loc), fP D N ad ce' H1 → va_S A0 s.heap H1 locs1 → W p l e R s m args below meth c H1 locs1 (cells + mc) (slots + ms) Q (F0 m (pc + 3) ls (rv :: rest))) : W p l e R s m args below meth c H locs cells slots Q (F0 m pc ls st0) :=
  nw_call hx hb hml hown htg hK hS hA hl (nw_fI hI hnm hinj) (nw_sub hnm hce hP) (fun q9 ⟨i9, h9, e9⟩ => by rw [e9]; exact hA0 _ (hnm i9 h9)) hM hcw hst hn hR hroom hdg hf fun H1 l1 h1 hk h4 => kk H1 l1 (nw_back hI hnm he ho hP h1 hk) h4
/-- a method of the object, whose names come first -/
theorem nw_O {ceO ceO' : Nat → va_E} {nL : Nat} {own : String} {y : MethodName} {cy : ByteArray} {maxL : Nat} {ret : Option FieldType} {fr lo : Nat} {As st0 : List Value} {rv : Option Value} {idx n : Nat} {fs : List Value}
    (hx : p.tables.exec = Jvm.exec) (hb : c.code = cc) (hml : c.maxLocals = nL) (hown : s.vm.findClass own = some m.cls) (htg : ∀ w ∈ wB, w.before args s = true) (hK : va_K D vwCl (fTys ct) s) (hI : fI N ad) (hP : fP D N ad ce H) (hS : va_S A0 H0 H locs) (hA0 : ∀ i, i < N → A0 (ad i)) (hl : ls.size = nL)
    (hN : 198 ≤ N) (hce : ∀ z, z < 198 → ce z = ceO z) (he : ∀ z, z < 198 → ce' z = ceO' z) (ho : ∀ i, i < N → 198 ≤ i → ce' i = ce i)
    (hM : FMet l y cy maxL ret fr lo D ct 198 ad (.ref (ad 0) :: As) ceO rv ceO') (hcw : cwf own idx RX5 y cy maxL ret n) (h0 : ceO 0 = .inr (5, fs))
    (hst : st0 = As.reverse ++ .ref (ad 0) :: rest) (hn : As.length = n) (hR : fr + 1 ≤ R.frames ∧ 8 + (maxL + 11) + lo ≤ R.locals) (hroom : (rest.map fun v => v.category).sum ≤ 8) (hdg : decode cc pc = .ok (.invokevirtual idx, 3)) (hf : cells ≤ R.cells ∧ slots ≤ R.slots)
    (kk : ∀ (H1 : Heap) (locs1 : List Loc), fP D N ad ce' H1 → va_S A0 H0 H1 locs1 → W p l e R s m args below meth c H1 locs1 cells slots Q (F0 m (pc + 3) ls (rv.toList ++ rest))) : W p l e R s m args below meth c H locs cells slots Q (F0 m pc ls st0) :=
  fc_V (N1 := 198) (ad1 := ad) (k0 := 0) hx hb hml hown htg hK hS hl (fun i j hi hj e9 => hI i j (by omega) (by omega) e9) (fP.of fun z hz => by have h := hP.at (show z < N by omega); rw [hce z hz] at h; exact h) (fun q9 ⟨i9, h9, e9⟩ => by rw [e9]; exact hA0 _ (by omega)) hM hcw (by omega) h0 (ci := 5) rfl rfl hst hn hR hroom hdg hf (fun H1 l1 h1 hk _ h4 => kk H1 l1 (fP.of fun i hi => by
    by_cases c : i < 198
    · rw [he i c]; exact h1.at c
    · rw [ho i hi (by omega)]; exact (hP.at hi).kept (hk _ (hP.lt hi) (fun ⟨z, hz, e9⟩ => c (by have := hI _ _ hi (by omega) e9; omega)))) h4)
theorem nw_Sr {N1 : Nat} {nm : Nat → Nat} {ce1 ce1' : Nat → va_E} {nL : Nat} {own : String} {y : MethodName} {cy : ByteArray} {maxL : Nat} {ret : Option FieldType} {fr lo : Nat} {As st0 : List Value} {rv : Value} {idx n : Nat}
    (hx : p.tables.exec = Jvm.exec) (hb : c.code = cc) (hml : c.maxLocals = nL) (hown : s.vm.findClass own = some m.cls) (htg : ∀ w ∈ wB, w.before args s = true) (hK : va_K D vwCl (fTys ct) s) (hI : fI N ad) (hP : fP D N ad ce H) (hS : va_S A0 H0 H locs) (hA0 : ∀ i, i < N → A0 (ad i)) (hl : ls.size = nL)
    (hnm : ∀ z, z < N1 → nm z < N) (hinj : ∀ i j, i < N1 → j < N1 → nm i = nm j → i = j) (hce : ∀ z, z < N1 → ce (nm z) = ce1 z) (he : ∀ z, z < N1 → ce' (nm z) = ce1' z) (ho : ∀ i, i < N → (∀ z, z < N1 → i ≠ nm z) → ce' i = ce i)
    (hM : FMet l y cy maxL ret fr lo D ct N1 (fun z => ad (nm z)) As ce1 (some rv) ce1') (hcw : cwg own idx y cy maxL ret n)
    (hst : st0 = As.reverse ++ rest) (hn : As.length = n) (hR : fr + 1 ≤ R.frames ∧ 8 + (maxL + 11) + lo ≤ R.locals) (hroom : (rest.map fun v => v.category).sum ≤ 8) (hdg : decode cc pc = .ok (.invokestatic idx, 3)) (hf : cells ≤ R.cells ∧ slots ≤ R.slots)
    (kk : ∀ (H1 : Heap) (locs1 : List Loc), fP D N ad ce' H1 → va_S A0 H0 H1 locs1 → W p l e R s m args below meth c H1 locs1 cells slots Q (F0 m (pc + 3) ls (rv :: rest))) : W p l e R s m args below meth c H locs cells slots Q (F0 m pc ls st0) :=
  nw_S hx hb hml hown htg hK hI hP hS hA0 hl hnm hinj hce he ho hM hcw hst hn hR hroom hdg hf kk
theorem nw_S0 {N1 : Nat} {nm : Nat → Nat} {ce1 ce1' : Nat → va_E} {nL : Nat} {own : String} {y : MethodName} {cy : ByteArray} {maxL : Nat} {ret : Option FieldType} {fr lo : Nat} {As st0 : List Value}  {idx n : Nat}
    (hx : p.tables.exec = Jvm.exec) (hb : c.code = cc) (hml : c.maxLocals = nL) (hown : s.vm.findClass own = some m.cls) (htg : ∀ w ∈ wB, w.before args s = true) (hK : va_K D vwCl (fTys ct) s) (hI : fI N ad) (hP : fP D N ad ce H) (hS : va_S A0 H0 H locs) (hA0 : ∀ i, i < N → A0 (ad i)) (hl : ls.size = nL)
    (hnm : ∀ z, z < N1 → nm z < N) (hinj : ∀ i j, i < N1 → j < N1 → nm i = nm j → i = j) (hce : ∀ z, z < N1 → ce (nm z) = ce1 z) (he : ∀ z, z < N1 → ce' (nm z) = ce1' z) (ho : ∀ i, i < N → (∀ z, z < N1 → i ≠ nm z) → ce' i = ce i)
    (hM : FMet l y cy maxL ret fr lo D ct N1 (fun z => ad (nm z)) As ce1 none ce1') (hcw : cwg own idx y cy maxL ret n)
    (hst : st0 = As.reverse ++ rest) (hn : As.length = n) (hR : fr + 1 ≤ R.frames ∧ 8 + (maxL + 11) + lo ≤ R.locals) (hroom : (rest.map fun v => v.category).sum ≤ 8) (hdg : decode cc pc = .ok (.invokestatic idx, 3)) (hf : cells ≤ R.cells ∧ slots ≤ R.slots)
    (kk : ∀ (H1 : Heap) (locs1 : List Loc), fP D N ad ce' H1 → va_S A0 H0 H1 locs1 → W p l e R s m args below meth c H1 locs1 cells slots Q (F0 m (pc + 3) ls rest)) : W p l e R s m args below meth c H locs cells slots Q (F0 m pc ls st0) :=
  nw_S hx hb hml hown htg hK hI hP hS hA0 hl hnm hinj hce he ho hM hcw hst hn hR hroom hdg hf kk
theorem nw_Or {ceO ceO' : Nat → va_E} {nL : Nat} {own : String} {y : MethodName} {cy : ByteArray} {maxL : Nat} {ret : Option FieldType} {fr lo : Nat} {As st0 : List Value} {rv : Value} {idx n : Nat} {fs : List Value}
    (hx : p.tables.exec = Jvm.exec) (hb : c.code = cc) (hml : c.maxLocals = nL) (hown : s.vm.findClass own = some m.cls) (htg : ∀ w ∈ wB, w.before args s = true) (hK : va_K D vwCl (fTys ct) s) (hI : fI N ad) (hP : fP D N ad ce H) (hS : va_S A0 H0 H locs) (hA0 : ∀ i, i < N → A0 (ad i)) (hl : ls.size = nL)
    (hN : 198 ≤ N) (hce : ∀ z, z < 198 → ce z = ceO z) (he : ∀ z, z < 198 → ce' z = ceO' z) (ho : ∀ i, i < N → 198 ≤ i → ce' i = ce i)
    (hM : FMet l y cy maxL ret fr lo D ct 198 ad (.ref (ad 0) :: As) ceO (some rv) ceO') (hcw : cwf own idx RX5 y cy maxL ret n) (h0 : ceO 0 = .inr (5, fs))
    (hst : st0 = As.reverse ++ .ref (ad 0) :: rest) (hn : As.length = n) (hR : fr + 1 ≤ R.frames ∧ 8 + (maxL + 11) + lo ≤ R.locals) (hroom : (rest.map fun v => v.category).sum ≤ 8) (hdg : decode cc pc = .ok (.invokevirtual idx, 3)) (hf : cells ≤ R.cells ∧ slots ≤ R.slots)
    (kk : ∀ (H1 : Heap) (locs1 : List Loc), fP D N ad ce' H1 → va_S A0 H0 H1 locs1 → W p l e R s m args below meth c H1 locs1 cells slots Q (F0 m (pc + 3) ls (rv :: rest))) : W p l e R s m args below meth c H locs cells slots Q (F0 m pc ls st0) :=
  nw_O hx hb hml hown htg hK hI hP hS hA0 hl hN hce he ho hM hcw h0 hst hn hR hroom hdg hf kk
theorem nw_O0 {ceO ceO' : Nat → va_E} {nL : Nat} {own : String} {y : MethodName} {cy : ByteArray} {maxL : Nat} {ret : Option FieldType} {fr lo : Nat} {As st0 : List Value}  {idx n : Nat} {fs : List Value}
    (hx : p.tables.exec = Jvm.exec) (hb : c.code = cc) (hml : c.maxLocals = nL) (hown : s.vm.findClass own = some m.cls) (htg : ∀ w ∈ wB, w.before args s = true) (hK : va_K D vwCl (fTys ct) s) (hI : fI N ad) (hP : fP D N ad ce H) (hS : va_S A0 H0 H locs) (hA0 : ∀ i, i < N → A0 (ad i)) (hl : ls.size = nL)
    (hN : 198 ≤ N) (hce : ∀ z, z < 198 → ce z = ceO z) (he : ∀ z, z < 198 → ce' z = ceO' z) (ho : ∀ i, i < N → 198 ≤ i → ce' i = ce i)
    (hM : FMet l y cy maxL ret fr lo D ct 198 ad (.ref (ad 0) :: As) ceO none ceO') (hcw : cwf own idx RX5 y cy maxL ret n) (h0 : ceO 0 = .inr (5, fs))
    (hst : st0 = As.reverse ++ .ref (ad 0) :: rest) (hn : As.length = n) (hR : fr + 1 ≤ R.frames ∧ 8 + (maxL + 11) + lo ≤ R.locals) (hroom : (rest.map fun v => v.category).sum ≤ 8) (hdg : decode cc pc = .ok (.invokevirtual idx, 3)) (hf : cells ≤ R.cells ∧ slots ≤ R.slots)
    (kk : ∀ (H1 : Heap) (locs1 : List Loc), fP D N ad ce' H1 → va_S A0 H0 H1 locs1 → W p l e R s m args below meth c H1 locs1 cells slots Q (F0 m (pc + 3) ls rest)) : W p l e R s m args below meth c H locs cells slots Q (F0 m pc ls st0) :=
  nw_O hx hb hml hown htg hK hI hP hS hA0 hl hN hce he ho hM hcw h0 hst hn hR hroom hdg hf kk
theorem lv_tveq {x y : Value} (h : x = y) (k : W p l e R s m args below meth c H locs cells slots Q (F0 m pc ls (y :: rest))) : W p l e R s m args below meth c H locs cells slots Q (F0 m pc ls (x :: rest)) := by
  subst h; exact k
end NW
/-! a row copied onto another -/
def cp2 (ct : Nat → ClassId) (len : Nat) (f g : Nat → Int32) : Nat → va_E := fun i => if i = 0 then .inl (ct 0, len, .inl f) else .inl (ct 0, len, .inl g)
def cpx (f g : Nat → Int32) (i : Nat) : Nat → Int32 := fun j => if j < i then f j else g j
theorem cpx_0 {f g : Nat → Int32} : g = cpx f g 0 := by funext j; unfold cpx; rw [if_neg (by omega)]
theorem cpx_s {f g : Nat → Int32} {i : Nat} : upd (cpx f g i) i (f i) = cpx f g (i + 1) := by
  funext j; unfold cpx
  by_cases e : j = i
  · subst e; rw [upd_s, if_pos (by omega)]
  · rw [upd_n e]
    by_cases c : j < i
    · rw [if_pos c, if_pos (by omega)]
    · rw [if_neg c, if_neg (by omega)]
theorem vp_ext9 {cA : ClassId} {n : Nat} {f f' : Nat → Int32} (h : ∀ j, j < n → f j = f' j) : vp_cell cA (n, .inl f) = vp_cell cA (n, .inl f') := by
  rw [vp_cell_i, vp_cell_i]
  unfold arrV
  congr 1
  apply Array.ext
  · simp
  · intro i h1 h2
    simp at h1
    simp [h i h1]
theorem cp2_he {ct : Nat → ClassId} {len i : Nat} {f g : Nat → Int32} : ∀ j, j < 2 → va_up (cp2 ct len f (cpx f g i)) 1 (.inl (ct 0, len, .inl (upd (cpx f g i) i (f i)))) j = cp2 ct len f (cpx f g (i + 1)) j := by
  intro j hj
  rcases (show j = 0 ∨ j = 1 by omega) with rfl | rfl
  · rfl
  · show (Sum.inl (ct 0, len, .inl (upd (cpx f g i) i (f i))) : va_E) = Sum.inl (ct 0, len, .inl (cpx f g (i + 1)))
    rw [cpx_s]
set_option maxRecDepth 100000 in
theorem mL_copy (l : Launch) (D : va_G) (ct : Nat → ClassId) (ad : Nat → Nat) (len : Nat) (f g : Nat → Int32) (hlen : len < 2147483648) : FMet l yL_copy cL_copy 3 (none : Option Jvm.ClassFile.FieldType) 0 0 D ct 2 ad [.ref (ad 0), .ref (ad 1)] (cp2 ct len f g) none (cp2 ct len f f) := by
  refine FMet.of (by decide +kernel) (Nat.le_of_ble_eq_true rfl) ?_
  intro p e s m args below meth c ls hx hb hr hml hown hlocks htg hK hI hP hS hl
  have hl : lv_has ls 3 [(0, .ref (ad 0)), (1, .ref (ad 1))] := hl
  refine lv_iconst (v := nI 0) hx hb dL_copy_0 (by decide) ?_
  refine lv_istore_n (lv' := [(2, .int (nI 0)), (0, .ref (ad 0)), (1, .ref (ad 1))]) hx hb dL_copy_1 rfl hl (by decide) rfl (fun ls hl => ?_)
  have lp2 : ∀ (fu2 : Nat) (i : Nat), i ≤ len → len - i < fu2 → ∀ (H : Heap) (locs : List Loc), fP D 2 ad (cp2 ct len f (cpx f g i)) H → va_S (fA 2 ad) s.heap H locs → ∀ (ls : Array Slot), lv_has ls 3 [(2, .int (nI i)), (0, .ref (ad 0)), (1, .ref (ad 1))] → W p l e ({ frames := 0, cells := 0, slots := 0, locals := 0 }) s m args below meth c H locs 0 0 (MQ below (fQ D ct 2 ad none (cp2 ct len f f)) args s 0 0 (fA 2 ad)) (F0 m 2 ls []) := by
    intro fu2
    induction fu2 with
    | zero => intro i hi hfu2; exact absurd hfu2 (Nat.not_lt_zero _)
    | succ fu2 ih2 =>
      intro i hi hfu2 H locs hP hS ls hl
      refine lv_iload_n hx hb dL_copy_2 rfl (lv_at hl 0 rfl) ?_
      refine lv_aload_n hx hb dL_copy_3 rfl (lv_at hl 1 rfl) ?_
      refine va_alen (cA := ct 0) (x := (len, .inl f)) (v := nI len) hx hb hK hP 0 0 (vl_get (by decide)) rfl rfl dL_copy_4 ?_
      refine lv_icmp_geN (tgt := 20) hx hb (by omega) (by omega) dL_copy_5 (by decide) (fun c5 => ?_) (fun c5 => ?_)
      · obtain rfl : i = len := by omega
        refine fr_vret hx hb hr hlocks hK hI hS dL_copy_20 ?_
        refine fP.of fun k hk => ?_
        have h := hP.at hk
        rcases (show k = 0 ∨ k = 1 by omega) with rfl | rfl
        · exact h
        · show H[ad 1]? = some (vp_cell (ct 0) (i, .inl f))
          rw [← vp_ext9 (f := cpx f g i) (fun j hj => if_pos hj)]
          exact h
      · refine lv_aload_n hx hb dL_copy_8 rfl (lv_at hl 2 rfl) ?_
        refine lv_iload_n hx hb dL_copy_9 rfl (lv_at hl 0 rfl) ?_
        refine lv_aload_n hx hb dL_copy_10 rfl (lv_at hl 1 rfl) ?_
        refine lv_iload_n hx hb dL_copy_11 rfl (lv_at hl 0 rfl) ?_
        refine fr_iald (k := 0) (f := f) hx hb hK hP (by decide) rfl (by omega) hlen dL_copy_12 ?_
        refine fr_iast (k := 1) (f := cpx f g i) hx hb hK hI hP hS (fun _ h => fA_in h) (by decide) rfl (by omega) hlen dL_copy_13 cp2_he (fun H locs hP hS => ?_)
        refine lv_iinc (v := nI (i + 1)) (lv' := [(2, .int (nI (i + 1))), (0, .ref (ad 0)), (1, .ref (ad 1))]) hx hb dL_copy_14 hl (k := 0) rfl (nI_add i 1) (by decide) rfl (fun ls hl => ?_)
        refine lv_goto (tgt := 2) hx hb dL_copy_17 (by decide) ?_
        exact ih2 (i + 1) (by omega) (by omega) _ _ hP hS _ hl
  have hP := fP.eqc (congrArg (fun v9 => cp2 ct len f v9) (cpx_0 (f := f) (g := g))) hP
  exact lp2 (len - 0 + 1) 0 (by omega) (Nat.lt_succ_self _) _ _ hP hS _ hl
