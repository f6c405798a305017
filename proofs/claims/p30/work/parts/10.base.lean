/-! BASE: words, worlds by names, contracts of methods that make nothing and answer by a function, their rows -/
def wB : List Cond := lw_tbl.filter goodWord
theorem wB_of (i : Nat) {w : Cond} (h : lw_tbl[i]? = some w) (g : goodWord w = true) : w ∈ wB := List.mem_filter.mpr ⟨List.mem_of_getElem? h, g⟩
theorem wB_tbl {w : Cond} (h : w ∈ wB) : w ∈ lw_tbl := (List.mem_filter.mp h).1
theorem wB_sub {ws : List Cond} (h : ∀ w ∈ ws, w ∈ lw_tbl) (g : ws.all goodWord = true) : ∀ w ∈ ws, w ∈ wB := fun w hw => List.mem_filter.mpr ⟨h w hw, List.all_eq_true.mp g w hw⟩
theorem wB_self : GoodIn wB wB := fun _ hw => ⟨hw, good_of_word (List.mem_filter.mp hw).2⟩
theorem wB_V {own : String} {idx : Nat} {C : String} {y : MethodName} {cc : ByteArray} {n : Nat} {ret : Option FieldType} (h1 : Cond.methodLink own idx y ∈ wB) (h2 : Cond.instanceMethod y ∈ wB) (h3 : Cond.selects C y y ∈ wB) (h4 : Cond.initialized C ∈ wB) (h5 : Cond.code y cc n ret ∈ wB) : GoodIn wB (wsV own idx C y (Cond.code y cc n ret :: wB)) := by
  intro w hw
  simp only [wsV, List.cons_append, List.nil_append, List.mem_cons] at hw
  rcases hw with rfl | rfl | rfl | rfl | rfl | hw
  · exact wB_self _ h1
  · exact wB_self _ h2
  · exact wB_self _ h3
  · exact wB_self _ h4
  · exact wB_self _ h5
  · exact wB_self _ hw
theorem wB_S {own : String} {idx : Nat} {y : MethodName} {cc : ByteArray} {n : Nat} {ret : Option FieldType} (h1 : Cond.methodLink own idx y ∈ wB) (h2 : Cond.static y ∈ wB) (h4 : Cond.initialized y.cls ∈ wB) (h5 : Cond.code y cc n ret ∈ wB) : GoodIn wB (va_wsS own idx y (Cond.code y cc n ret :: wB)) := by
  intro w hw
  simp only [va_wsS, List.cons_append, List.nil_append, List.mem_cons] at hw
  rcases hw with rfl | rfl | rfl | rfl | hw
  · exact wB_self _ h1
  · exact wB_self _ h2
  · exact wB_self _ h4
  · exact wB_self _ h5
  · exact wB_self _ hw
/-- a call's words and its method's name -/
def cwf (own : String) (idx : Nat) (C : String) (y : MethodName) (cc : ByteArray) (maxL : Nat) (ret : Option FieldType) (n : Nat) : Prop := GoodIn wB (wsV own idx C y (Cond.code y cc maxL ret :: wB)) ∧ (y.cls = C ∧ y.cls ≠ "java/lang/invoke/MethodHandle" ∧ y.cls ≠ "java/lang/invoke/VarHandle" ∧ (parseMethodDescriptor y.desc).map (fun d => d.parameters.length) = some n)
def cwg (own : String) (idx : Nat) (y : MethodName) (cc : ByteArray) (maxL : Nat) (ret : Option FieldType) (n : Nat) : Prop := GoodIn wB (va_wsS own idx y (Cond.code y cc maxL ret :: wB)) ∧ (y.cls ≠ "java/lang/invoke/MethodHandle" ∧ y.cls ≠ "java/lang/invoke/VarHandle" ∧ (parseMethodDescriptor y.desc).map (fun d => d.parameters.length) = some n)
/-- array classes by number: int, boolean, char, and of stalls, breakers, markets -/
abbrev fTys (ct : Nat → ClassId) : List (ClassId × FieldType) := [(ct 0, .int), (ct 1, .boolean), (ct 2, .char), (ct 3, .object RX4), (ct 4, .object RX0), (ct 5, .object RX2)]
def vl (N : Nat) (ad : Nat → Nat) (ce : Nat → va_E) : va_W := (List.range N).map (fun k => (ad k, ce k))
theorem vl_len {N : Nat} {ad : Nat → Nat} {ce : Nat → va_E} : (vl N ad ce).length = N := by simp [vl]
theorem vl_get {N : Nat} {ad : Nat → Nat} {ce : Nat → va_E} {k : Nat} (h : k < N) : (vl N ad ce)[k]? = some (ad k, ce k) := by
  simp [vl, h]
theorem vl_at {N : Nat} {ad : Nat → Nat} {ce : Nat → va_E} {k : Nat} {q : Nat × va_E} (h : (vl N ad ce)[k]? = some q) : k < N ∧ q = (ad k, ce k) := by
  have h1 : k < N := by
    have := (List.getElem?_eq_some_iff.mp h).1
    rw [vl_len] at this
    exact this
  rw [vl_get h1] at h
  exact ⟨h1, (Option.some.inj h).symm⟩
theorem vl_ext {N : Nat} {ad : Nat → Nat} {ce ce' : Nat → va_E} (h : ∀ k, k < N → ce k = ce' k) : vl N ad ce = vl N ad ce' := by
  apply List.map_congr_left
  intro k hk
  rw [h k (List.mem_range.mp hk)]
theorem vl_set {N : Nat} {ad : Nat → Nat} {ce : Nat → va_E} {k : Nat} (e : va_E) : (vl N ad ce).set k (ad k, e) = vl N ad (va_up ce k e) := by
  apply List.ext_getElem?
  intro i
  by_cases hi : i < N
  · rw [List.getElem?_set, vl_get hi, vl_len]
    by_cases hk : k = i
    · subst hk
      simp [hi, vl_get, va_up]
    · rw [if_neg hk, vl_get hi, va_up_ne _ _ (Ne.symm hk)]
  · rw [List.getElem?_eq_none (by rw [List.length_set, vl_len]; omega), List.getElem?_eq_none (by rw [vl_len]; omega)]
def fI (N : Nat) (ad : Nat → Nat) : Prop := ∀ i j, i < N → j < N → ad i = ad j → i = j
def fA (N : Nat) (ad : Nat → Nat) : Nat → Prop := fun q => ∃ k, k < N ∧ q = ad k
theorem fA_in {N : Nat} {ad : Nat → Nat} {k : Nat} (h : k < N) : fA N ad (ad k) := ⟨k, h, rfl⟩
def fP (D : va_G) (N : Nat) (ad : Nat → Nat) (ce : Nat → va_E) (H : Heap) : Prop := va_P D vwCl (vl N ad ce) H
theorem fP.ext {D : va_G} {N : Nat} {ad : Nat → Nat} {ce ce' : Nat → va_E} {H : Heap} (h : fP D N ad ce H) (e : ∀ k, k < N → ce k = ce' k) : fP D N ad ce' H := by
  unfold fP at h ⊢
  rw [← vl_ext e]
  exact h
theorem fP.at {D : va_G} {N : Nat} {ad : Nat → Nat} {ce : Nat → va_E} {H : Heap} (h : fP D N ad ce H) {k : Nat} (hk : k < N) : va_at D vwCl (ad k, ce k) H := h k _ (vl_get hk)
theorem fP.of {D : va_G} {N : Nat} {ad : Nat → Nat} {ce : Nat → va_E} {H : Heap} (h : ∀ k, k < N → va_at D vwCl (ad k, ce k) H) : fP D N ad ce H := by
  intro k q hq
  obtain ⟨h1, rfl⟩ := vl_at hq
  exact h k h1
theorem fP.lt {D : va_G} {N : Nat} {ad : Nat → Nat} {ce : Nat → va_E} {H : Heap} (h : fP D N ad ce H) {k : Nat} (hk : k < N) : ad k < H.size := (h.at hk).lt
theorem fD {N : Nat} {ad : Nat → Nat} {ce : Nat → va_E} {A : Nat → Prop} (h : fI N ad) (hA : ∀ k, k < N → A (ad k)) : va_D A (vl N ad ce) := by
  refine ⟨fun i j p q hi hj e => ?_, fun k q hk => ?_⟩
  · obtain ⟨h1, rfl⟩ := vl_at hi
    obtain ⟨h2, rfl⟩ := vl_at hj
    exact h i j h1 h2 e
  · obtain ⟨h1, rfl⟩ := vl_at hk
    exact hA k h1
def fW (D : va_G) (ct : Nat → ClassId) (N : Nat) (ad : Nat → Nat) (ce : Nat → va_E) (U : State) : Prop := fP D N ad ce U.heap ∧ va_K D vwCl (fTys ct) U ∧ fI N ad
def fQ (D : va_G) (ct : Nat → ClassId) (N : Nat) (ad : Nat → Nat) (rv : Option Value) (ce' : Nat → va_E) : Array Value → State → Outcome → State → Prop := fun _ st oc t => (oc = .returned rv ∧ fW D ct N ad ce' t) ∧ va_F (fA N ad) st t
/-- a method that makes nothing, whose answer and world are functions -/
def FMet (l : Launch) (y : MethodName) (cc : ByteArray) (maxL : Nat) (ret : Option FieldType) (fr lo : Nat) (D : va_G) (ct : Nat → ClassId) (N : Nat) (ad : Nat → Nat) (av : List Value) (ce : Nat → va_E) (rv : Option Value) (ce' : Nat → va_E) : Prop :=
  Met l y (Cond.code y cc maxL ret :: wB) ({ frames := fr, cells := 0, slots := 0, locals := lo }) (va_Pc av (fW D ct N ad ce)) (fQ D ct N ad rv ce') 0 0 (fA N ad)
section BASE
variable {p : Program} {l : Launch} {e : Env} {R : Room} {s : State} {m : MethodId} {args : Array Value} {below : List Frame} {meth : Method} {c : Code} {H : Heap} {locs : List Loc} {cells slots : Nat} {Q : State → Prop}
variable {cc : ByteArray} {pc : Nat} {ls : Array Slot} {rest : List Value} {D : va_G} {ct : Nat → ClassId} {N : Nat} {ad : Nat → Nat} {ce ce' : Nat → va_E} {A0 : Nat → Prop} {H0 : Heap}
theorem FMet.of {y : MethodName} {maxL : Nat} {ret : Option FieldType} {fr lo : Nat} {av : List Value} {rv : Option Value} (hy : plainName y.cls = true) (hlen : (lg_sl av).length ≤ maxL)
    (body : ∀ (p : Program) (e : Env) (s : State) (m : MethodId) (args : Array Value) (below : List Frame) (meth : Method) (c : Code) (ls : Array Slot), p.tables.exec = Jvm.exec → c.code = cc → meth.sig.returnType = ret → c.maxLocals = maxL → s.vm.findClass y.cls = some m.cls → meth.locks = false → (∀ w ∈ wB, w.before args s = true) → va_K D vwCl (fTys ct) s → fI N ad → fP D N ad ce s.heap → va_S (fA N ad) s.heap s.heap [] → lv_has ls maxL (lv_args 0 av) →
      W p l e ({ frames := fr, cells := 0, slots := 0, locals := lo }) s m args below meth c s.heap [] 0 0 (MQ below (fQ D ct N ad rv ce') args s 0 0 (fA N ad)) (F0 m 0 ls [])) : FMet l y cc maxL ret fr lo D ct N ad av ce rv ce' := by
  refine Met.ofW (cc := cc) (maxL := maxL) (ret := ret) hy rfl ?_
  intro p e s m args below meth c s₁ B hml hv
  obtain ⟨rfl, hP, hK, hI⟩ := hv
  have hts := atoms_spec (ws := Cond.code y cc maxL ret :: wB) B.pre
  have hl := lv_entry av (n := maxL) hlen
  rw [lg_entry_eq]
  exact body p e s m _ below meth c _ B.exec B.bytes B.returns hml (findClass_of_methodNamed B.named) B.notSynchronized (fun w hw => hts w (List.mem_cons_of_mem _ hw)) hK hI hP va_S.rf hl
theorem fr_iret {rv : Int32} {v : Int32} {ty : FieldType} (hx : p.tables.exec = Jvm.exec) (hb : c.code = cc) (hr : meth.sig.returnType = some ty) (hlocks : meth.locks = false) (hK : va_K D vwCl (fTys ct) s) (hI : fI N ad) (hS : va_S (fA N ad) s.heap H locs) (hn : narrow ty (.int v) = .int v) (hdg : decode cc pc = .ok (.ireturn, 1)) (hv : v = rv) (hP : fP D N ad ce' H) :
    W p l e R s m args below meth c H locs 0 0 (MQ below (fQ D ct N ad (some (.int rv)) ce') args s 0 0 (fA N ad)) (F0 m pc ls [.int v]) := by
  subst hv
  exact W.zret hx hb hr hn (fun t ht hW => ⟨⟨rfl, by rw [ht]; exact hP, va_K.moved hW.alike hK, hI⟩, hS.F ht⟩) hS.2.2 hdg hlocks
theorem fr_vret (hx : p.tables.exec = Jvm.exec) (hb : c.code = cc) (hr : meth.sig.returnType = none) (hlocks : meth.locks = false) (hK : va_K D vwCl (fTys ct) s) (hI : fI N ad) (hS : va_S (fA N ad) s.heap H locs) (hdg : decode cc pc = .ok (.return_, 1)) (hP : fP D N ad ce' H) :
    W p l e R s m args below meth c H locs 0 0 (MQ below (fQ D ct N ad none ce') args s 0 0 (fA N ad)) (F0 m pc ls []) :=
  W.vret hx hb hr (fun t ht hW => ⟨⟨rfl, by rw [ht]; exact hP, va_K.moved hW.alike hK, hI⟩, hS.F ht⟩) hS.2.2 hdg hlocks
theorem fr_dret {rv : UInt64} {v : UInt64} (hx : p.tables.exec = Jvm.exec) (hb : c.code = cc) (hr : meth.sig.returnType = some .double) (hlocks : meth.locks = false) (hK : va_K D vwCl (fTys ct) s) (hI : fI N ad) (hS : va_S (fA N ad) s.heap H locs) (hdg : decode cc pc = .ok (.dreturn, 1)) (hv : v = rv) (hP : fP D N ad ce' H) :
    W p l e R s m args below meth c H locs 0 0 (MQ below (fQ D ct N ad (some (.double rv)) ce') args s 0 0 (fA N ad)) (F0 m pc ls [.double v]) := by
  subst hv
  exact W.dret hx hb hr (fun t ht hW => ⟨⟨rfl, by rw [ht]; exact hP, va_K.moved hW.alike hK, hI⟩, hS.F ht⟩) hS.2.2 hdg hlocks
theorem fW_blind {av : List Value} : FrameBlind (va_Pc av (fW D ct N ad ce)) := fun a U g mk q => by
  obtain ⟨q0, qP, qK, qI⟩ := q
  exact ⟨q0, qP, va_K.moved (u := U) (U := U.calling g mk a) (Vm.Alike.refl U.vm) qK, qI⟩
/-- a call of an object's method whose world is part of the caller's: what lies outside stays -/
theorem fc_V {N1 : Nat} {ad1 : Nat → Nat} {ce1 ce1' : Nat → va_E} {nL : Nat} {own C : String} {y : MethodName} {cy : ByteArray} {maxL : Nat} {ret : Option FieldType} {fr lo : Nat} {As st0 : List Value} {rv : Option Value} {k0 ci idx n : Nat} {fs : List Value} {q0 : vw_C}
    (hx : p.tables.exec = Jvm.exec) (hb : c.code = cc) (hml : c.maxLocals = nL) (hown : s.vm.findClass own = some m.cls) (htg : ∀ w ∈ wB, w.before args s = true) (hK : va_K D vwCl (fTys ct) s) (hS : va_S A0 H0 H locs) (hl : ls.size = nL)
    (hI1 : fI N1 ad1) (hP1 : fP D N1 ad1 ce1 H) (hA1 : ∀ q, fA N1 ad1 q → A0 q) (hM : FMet l y cy maxL ret fr lo D ct N1 ad1 (.ref (ad1 k0) :: As) ce1 rv ce1') (hcw : cwf own idx C y cy maxL ret n) (hk0 : k0 < N1) (hce : ce1 k0 = .inr (ci, fs)) (hc : vwCl[ci]? = some q0) (hC : q0.1 = C)
    (hst : st0 = As.reverse ++ .ref (ad1 k0) :: rest) (hn : As.length = n) (hR : fr + 1 ≤ R.frames ∧ 8 + (maxL + 11) + lo ≤ R.locals) (hroom : (rest.map fun v => v.category).sum ≤ 8) (hdg : decode cc pc = .ok (.invokevirtual idx, 3)) (hf : cells ≤ R.cells ∧ slots ≤ R.slots)
    (kk : ∀ (H1 : Heap) (locs1 : List Loc), fP D N1 ad1 ce1' H1 → (∀ q : Nat, q < H.size → ¬ fA N1 ad1 q → H1[q]? = H[q]?) → H.size ≤ H1.size → va_S A0 H0 H1 locs1 → W p l e R s m args below meth c H1 locs1 cells slots Q (F0 m (pc + 3) ls (rv.toList ++ rest))) : W p l e R s m args below meth c H locs cells slots Q (F0 m pc ls st0) := by
  intro T hT X
  subst hC
  obtain ⟨v, st₀, t, T', L, h0, X', hL, e1, e2, ⟨⟨hv, hw1, hw2, hw3⟩, hz, hk⟩, st⟩ := va_runV (As := As) (rest := rest) (g := F0 m pc ls st0) ⟨hx, hb, hml, hown, htg⟩ hM (cwV n htg hcw.1 rfl rfl rfl hcw.2 hR) ⟨fW_blind, va_recv hK hP1 hc (by rw [← hce]; exact vl_get hk0), fun U hU hW => ⟨rfl, by rw [hU]; exact hP1, va_K.moved hW.alike hK, hI1⟩⟩ rfl hn hl hst (lv_room hroom) hdg hf T hT X
  cases hv
  rw [h0] at hz hk
  obtain ⟨t2, a1, b1⟩ := kk T'.heap (locs ++ L) (by rw [e1]; exact hw1) (fun q h1 h2 => by rw [e1]; exact hk q h1 h2) (by rw [e1]; exact hz)
    ⟨Nat.le_trans hS.1 (by rw [e1]; exact hz), fun q h1 h2 => by rw [e1, hk q (Nat.lt_of_lt_of_le h1 hS.1) (fun z => h2 (hA1 q z))]; exact hS.2.1 q h1 h2, fun q hq => by
      rcases List.mem_append.mp hq with h | h
      · exact hS.2.2 q h
      · exact hA1 _ (hL q h)⟩ T' rfl X'
  exact ⟨t2, st t2 a1, b1⟩
theorem fc_S {N1 : Nat} {ad1 : Nat → Nat} {ce1 ce1' : Nat → va_E} {nL : Nat} {own : String} {y : MethodName} {cy : ByteArray} {maxL : Nat} {ret : Option FieldType} {fr lo : Nat} {As st0 : List Value} {rv : Option Value} {idx n : Nat}
    (hx : p.tables.exec = Jvm.exec) (hb : c.code = cc) (hml : c.maxLocals = nL) (hown : s.vm.findClass own = some m.cls) (htg : ∀ w ∈ wB, w.before args s = true) (hK : va_K D vwCl (fTys ct) s) (hS : va_S A0 H0 H locs) (hl : ls.size = nL)
    (hI1 : fI N1 ad1) (hP1 : fP D N1 ad1 ce1 H) (hA1 : ∀ q, fA N1 ad1 q → A0 q) (hM : FMet l y cy maxL ret fr lo D ct N1 ad1 As ce1 rv ce1') (hcw : cwg own idx y cy maxL ret n)
    (hst : st0 = As.reverse ++ rest) (hn : As.length = n) (hR : fr + 1 ≤ R.frames ∧ 8 + (maxL + 11) + lo ≤ R.locals) (hroom : (rest.map fun v => v.category).sum ≤ 8) (hdg : decode cc pc = .ok (.invokestatic idx, 3)) (hf : cells ≤ R.cells ∧ slots ≤ R.slots)
    (kk : ∀ (H1 : Heap) (locs1 : List Loc), fP D N1 ad1 ce1' H1 → (∀ q : Nat, q < H.size → ¬ fA N1 ad1 q → H1[q]? = H[q]?) → H.size ≤ H1.size → va_S A0 H0 H1 locs1 → W p l e R s m args below meth c H1 locs1 cells slots Q (F0 m (pc + 3) ls (rv.toList ++ rest))) : W p l e R s m args below meth c H locs cells slots Q (F0 m pc ls st0) := by
  intro T hT X
  obtain ⟨v, st₀, t, T', L, h0, X', hL, e1, e2, ⟨⟨hv, hw1, hw2, hw3⟩, hz, hk⟩, st⟩ := va_runS (As := As) (rest := rest) (g := F0 m pc ls st0) ⟨hx, hb, hml, hown, htg⟩ hM (va_cwS n htg hcw.1 rfl rfl rfl hcw.2 hR) ⟨fW_blind, fun U hU hW => ⟨rfl, by rw [hU]; exact hP1, va_K.moved hW.alike hK, hI1⟩⟩ rfl hn hl hst (lv_room hroom) hdg hf T hT X
  cases hv
  rw [h0] at hz hk
  obtain ⟨t2, a1, b1⟩ := kk T'.heap (locs ++ L) (by rw [e1]; exact hw1) (fun q h1 h2 => by rw [e1]; exact hk q h1 h2) (by rw [e1]; exact hz)
    ⟨Nat.le_trans hS.1 (by rw [e1]; exact hz), fun q h1 h2 => by rw [e1, hk q (Nat.lt_of_lt_of_le h1 hS.1) (fun z => h2 (hA1 q z))]; exact hS.2.1 q h1 h2, fun q hq => by
      rcases List.mem_append.mp hq with h | h
      · exact hS.2.2 q h
      · exact hA1 _ (hL q h)⟩ T' rfl X'
  exact ⟨t2, st t2 a1, b1⟩
/-- the same, of a method of the caller's own world -/
theorem fc_Vo {nL : Nat} {own C : String} {y : MethodName} {cy : ByteArray} {maxL : Nat} {ret : Option FieldType} {fr lo : Nat} {As st0 : List Value} {rv : Option Value} {k0 ci idx n : Nat} {fs : List Value} {q0 : vw_C}
    (hx : p.tables.exec = Jvm.exec) (hb : c.code = cc) (hml : c.maxLocals = nL) (hown : s.vm.findClass own = some m.cls) (htg : ∀ w ∈ wB, w.before args s = true) (hK : va_K D vwCl (fTys ct) s) (hI : fI N ad) (hP : fP D N ad ce H) (hS : va_S (fA N ad) H0 H locs) (hl : ls.size = nL)
    (hM : FMet l y cy maxL ret fr lo D ct N ad (.ref (ad k0) :: As) ce rv ce') (hcw : cwf own idx C y cy maxL ret n) (hk0 : k0 < N) (hce : ce k0 = .inr (ci, fs)) (hc : vwCl[ci]? = some q0) (hC : q0.1 = C)
    (hst : st0 = As.reverse ++ .ref (ad k0) :: rest) (hn : As.length = n) (hR : fr + 1 ≤ R.frames ∧ 8 + (maxL + 11) + lo ≤ R.locals) (hroom : (rest.map fun v => v.category).sum ≤ 8) (hdg : decode cc pc = .ok (.invokevirtual idx, 3)) (hf : cells ≤ R.cells ∧ slots ≤ R.slots)
    (kk : ∀ (H1 : Heap) (locs1 : List Loc), fP D N ad ce' H1 → va_S (fA N ad) H0 H1 locs1 → W p l e R s m args below meth c H1 locs1 cells slots Q (F0 m (pc + 3) ls (rv.toList ++ rest))) : W p l e R s m args below meth c H locs cells slots Q (F0 m pc ls st0) :=
  fc_V hx hb hml hown htg hK hS hl hI hP (fun _ h => h) hM hcw hk0 hce hc hC hst hn hR hroom hdg hf fun H1 l1 h1 _ _ h4 => kk H1 l1 h1 h4
theorem fc_So {nL : Nat} {own : String} {y : MethodName} {cy : ByteArray} {maxL : Nat} {ret : Option FieldType} {fr lo : Nat} {As st0 : List Value} {rv : Option Value} {idx n : Nat}
    (hx : p.tables.exec = Jvm.exec) (hb : c.code = cc) (hml : c.maxLocals = nL) (hown : s.vm.findClass own = some m.cls) (htg : ∀ w ∈ wB, w.before args s = true) (hK : va_K D vwCl (fTys ct) s) (hI : fI N ad) (hP : fP D N ad ce H) (hS : va_S (fA N ad) H0 H locs) (hl : ls.size = nL)
    (hM : FMet l y cy maxL ret fr lo D ct N ad As ce rv ce') (hcw : cwg own idx y cy maxL ret n)
    (hst : st0 = As.reverse ++ rest) (hn : As.length = n) (hR : fr + 1 ≤ R.frames ∧ 8 + (maxL + 11) + lo ≤ R.locals) (hroom : (rest.map fun v => v.category).sum ≤ 8) (hdg : decode cc pc = .ok (.invokestatic idx, 3)) (hf : cells ≤ R.cells ∧ slots ≤ R.slots)
    (kk : ∀ (H1 : Heap) (locs1 : List Loc), fP D N ad ce' H1 → va_S (fA N ad) H0 H1 locs1 → W p l e R s m args below meth c H1 locs1 cells slots Q (F0 m (pc + 3) ls (rv.toList ++ rest))) : W p l e R s m args below meth c H locs cells slots Q (F0 m pc ls st0) :=
  fc_S hx hb hml hown htg hK hS hl hI hP (fun _ h => h) hM hcw hst hn hR hroom hdg hf fun H1 l1 h1 _ _ h4 => kk H1 l1 h1 h4
theorem fr_get {k ci j n idx : Nat} {fs : List Value} {C own ref : String} {T : u_T} {v : Value} (hx : p.tables.exec = Jvm.exec) (hb : c.code = cc) (hown : s.vm.findClass own = some m.cls) (htg : ∀ w ∈ wB, w.before args s = true) (hK : va_K D vwCl (fTys ct) s) (hP : fP D N ad ce H) (hk : k < N) (hce : ce k = .inr (ci, fs)) (hc : vwCl[ci]? = some (C, T, n)) (hin : ∀ w ∈ u_ws C T n, w ∈ wB) (hj : j < n) (hlink : Cond.fieldLink own idx ref (T j).2.1 (T j).2.2.1 ∈ wB) (hsame : (T j).1 = ref) (hv : fs[j]? = some v) (hdg : decode cc pc = .ok (.getfield idx, 3))
    (kk : W p l e R s m args below meth c H locs cells slots Q (F0 m (pc + 3) ls (v :: rest))) : W p l e R s m args below meth c H locs cells slots Q (F0 m pc ls (.ref (ad k) :: rest)) :=
  va_get hx hb htg hin hown hK hP k (by rw [← hce]; exact vl_get hk) hc j hj (htg _ hlink) (fun x h => by rw [← hsame]; exact h) hv hdg kk
theorem fr_put {k ci j n idx : Nat} {fs : List Value} {C own ref : String} {T : u_T} {v : Value} {ty : FieldType} (hx : p.tables.exec = Jvm.exec) (hb : c.code = cc) (hown : s.vm.findClass own = some m.cls) (htg : ∀ w ∈ wB, w.before args s = true) (hK : va_K D vwCl (fTys ct) s) (hI : fI N ad) (hP : fP D N ad ce H) (hS : va_S A0 H0 H locs) (hA : ∀ i, i < N → A0 (ad i)) (hk : k < N) (hce : ce k = .inr (ci, fs)) (hc : vwCl[ci]? = some (C, T, n)) (hin : ∀ w ∈ u_ws C T n, w ∈ wB) (ty0 : Nat → FieldType) (hty : ∀ k, k < n → parseFieldDescriptor (T k).2.2.1 = some (ty0 k)) (hnm : ∀ a, a < n → ∀ b, b < n → a ≠ b → (T a).2.1 ≠ (T b).2.1) (hj : j < n) (hlink : Cond.fieldLink own idx ref (T j).2.1 (T j).2.2.1 ∈ wB) (hsame : (T j).1 = ref) (hfin : (T j).2.2.2 = false) (hd : ty0 j = ty) (hn : narrow ty v = v) (hfit : fits ty v = true) (hl : j < fs.length) (hdg : decode cc pc = .ok (.putfield idx, 3)) (he : ∀ i, i < N → va_up ce k (.inr (ci, fs.set j v)) i = ce' i)
    (kk : ∀ (H1 : Heap) (locs1 : List Loc), fP D N ad ce' H1 → va_S A0 H0 H1 locs1 → W p l e R s m args below meth c H1 locs1 cells slots Q (F0 m (pc + 3) ls rest)) : W p l e R s m args below meth c H locs cells slots Q (F0 m pc ls (v :: .ref (ad k) :: rest)) := by
  subst hd
  refine va_put hx hb htg hin ty0 hty hnm hown hK hP (fD hI hA) hS k (by rw [← hce]; exact vl_get hk) hc j hj (htg _ hlink) (fun x h => by rw [← hsame]; exact h) hfin (hty j hj) hn hfit hl hdg (fun H1 l1 h1 _ h3 => kk H1 l1 ?_ h3)
  rw [vl_set] at h1
  exact fP.ext h1 he
theorem fr_iald {k i len : Nat} {f : Nat → Int32} (hx : p.tables.exec = Jvm.exec) (hb : c.code = cc) (hK : va_K D vwCl (fTys ct) s) (hP : fP D N ad ce H) (hk : k < N) (hce : ce k = .inl (ct 0, len, .inl f)) (hi : i < len) (hlen : len < 2147483648) (hdg : decode cc pc = .ok (.iaload, 1))
    (kk : W p l e R s m args below meth c H locs cells slots Q (F0 m (pc + 1) ls (.int (f i) :: rest))) : W p l e R s m args below meth c H locs cells slots Q (F0 m pc ls (.int (nI i) :: .ref (ad k) :: rest)) := by
  refine va_iald hx hb hK hP k 0 (by rw [← hce]; exact vl_get hk) rfl (vp_in_nI hi hlen) hdg ?_
  rw [nI_clamp (Nat.lt_trans hi hlen)]
  exact kk
theorem fr_zald {k i len : Nat} {f : Nat → Int32} (hx : p.tables.exec = Jvm.exec) (hb : c.code = cc) (hK : va_K D vwCl (fTys ct) s) (hP : fP D N ad ce H) (hk : k < N) (hce : ce k = .inl (ct 1, len, .inl f)) (hi : i < len) (hlen : len < 2147483648) (hdg : decode cc pc = .ok (.baload, 1))
    (kk : W p l e R s m args below meth c H locs cells slots Q (F0 m (pc + 1) ls (.int (f i) :: rest))) : W p l e R s m args below meth c H locs cells slots Q (F0 m pc ls (.int (nI i) :: .ref (ad k) :: rest)) := by
  refine va_zald hx hb hK hP k 1 (by rw [← hce]; exact vl_get hk) rfl (vp_in_nI hi hlen) hdg ?_
  rw [nI_clamp (Nat.lt_trans hi hlen)]
  exact kk
theorem fr_iast {k i len : Nat} {f : Nat → Int32} {x : Int32} (hx : p.tables.exec = Jvm.exec) (hb : c.code = cc) (hK : va_K D vwCl (fTys ct) s) (hI : fI N ad) (hP : fP D N ad ce H) (hS : va_S A0 H0 H locs) (hA : ∀ i, i < N → A0 (ad i)) (hk : k < N) (hce : ce k = .inl (ct 0, len, .inl f)) (hi : i < len) (hlen : len < 2147483648) (hdg : decode cc pc = .ok (.iastore, 1)) (he : ∀ j, j < N → va_up ce k (.inl (ct 0, len, .inl (upd f i x))) j = ce' j)
    (kk : ∀ (H1 : Heap) (locs1 : List Loc), fP D N ad ce' H1 → va_S A0 H0 H1 locs1 → W p l e R s m args below meth c H1 locs1 cells slots Q (F0 m (pc + 1) ls rest)) : W p l e R s m args below meth c H locs cells slots Q (F0 m pc ls (.int x :: .int (nI i) :: .ref (ad k) :: rest)) := by
  refine va_iast hx hb hK hP (fD hI hA) hS k 0 (by rw [← hce]; exact vl_get hk) rfl (vp_in_nI hi hlen) hdg (fun H1 l1 h1 _ h3 => kk H1 l1 ?_ h3)
  rw [nI_clamp (Nat.lt_trans hi hlen), vl_set] at h1
  exact fP.ext h1 he
theorem fr_zast {k i len : Nat} {f : Nat → Int32} {x : Int32} (hx : p.tables.exec = Jvm.exec) (hb : c.code = cc) (hK : va_K D vwCl (fTys ct) s) (hI : fI N ad) (hP : fP D N ad ce H) (hS : va_S A0 H0 H locs) (hA : ∀ i, i < N → A0 (ad i)) (hk : k < N) (hce : ce k = .inl (ct 1, len, .inl f)) (hi : i < len) (hlen : len < 2147483648) (hx1 : vp_nar .boolean x = x) (hdg : decode cc pc = .ok (.bastore, 1)) (he : ∀ j, j < N → va_up ce k (.inl (ct 1, len, .inl (upd f i x))) j = ce' j)
    (kk : ∀ (H1 : Heap) (locs1 : List Loc), fP D N ad ce' H1 → va_S A0 H0 H1 locs1 → W p l e R s m args below meth c H1 locs1 cells slots Q (F0 m (pc + 1) ls rest)) : W p l e R s m args below meth c H locs cells slots Q (F0 m pc ls (.int x :: .int (nI i) :: .ref (ad k) :: rest)) := by
  refine va_zast hx hb hK hP (fD hI hA) hS k 1 (by rw [← hce]; exact vl_get hk) rfl (vp_in_nI hi hlen) hdg (fun H1 l1 h1 _ h3 => kk H1 l1 ?_ h3)
  rw [nI_clamp (Nat.lt_trans hi hlen), vl_set, hx1] at h1
  exact fP.ext h1 he
theorem fr_aldq {k i len t0 : Nat} {C : String} {cA : ClassId} {f : Nat → Option Nat} {x : Nat} (hx : p.tables.exec = Jvm.exec) (hb : c.code = cc) (hK : va_K D vwCl (fTys ct) s) (hP : fP D N ad ce H) (hk : k < N) (hce : ce k = .inl (cA, len, .inr (.inr (.inr (.inr f))))) (ht : (fTys ct)[t0]? = some (cA, .object C)) (hi : i < len) (hlen : len < 2147483648) (hf : f i = some x) (hdg : decode cc pc = .ok (.aaload, 1))
    (kk : W p l e R s m args below meth c H locs cells slots Q (F0 m (pc + 1) ls (.ref x :: rest))) : W p l e R s m args below meth c H locs cells slots Q (F0 m pc ls (.int (nI i) :: .ref (ad k) :: rest)) := by
  refine va_aldq hx hb hK hP k t0 (by rw [← hce]; exact vl_get hk) ht (vp_in_nI hi hlen) hdg ?_
  rw [nI_clamp (Nat.lt_trans hi hlen), hf]
  exact kk
/-- the number on the stack, by another name -/
theorem lv_teq {x y : Int32} (h : x = y) (k : W p l e R s m args below meth c H locs cells slots Q (F0 m pc ls (.int y :: rest))) : W p l e R s m args below meth c H locs cells slots Q (F0 m pc ls (.int x :: rest)) := by
  subst h; exact k
theorem lv_iaddN (hexec : p.tables.exec = Jvm.exec) (hb : c.code = cc) {a b : Nat} (hdg : decode cc pc = .ok (.iadd, 1)) (k : W p l e R s m args below meth c H locs cells slots Q (F0 m (pc + 1) ls (.int (nI (a + b)) :: rest))) : W p l e R s m args below meth c H locs cells slots Q (F0 m pc ls (.int (nI b) :: .int (nI a) :: rest)) :=
  lv_iadd hexec hb hdg (lv_teq (nI_add a b) k)
theorem lv_idivN (hexec : p.tables.exec = Jvm.exec) (hb : c.code = cc) {a b : Nat} (ha : a < 2147483648) (h0 : 0 < b) (h1 : b < 2147483648) (hdg : decode cc pc = .ok (.idiv, 1)) (k : W p l e R s m args below meth c H locs cells slots Q (F0 m (pc + 1) ls (.int (nI (a / b)) :: rest))) : W p l e R s m args below meth c H locs cells slots Q (F0 m pc ls (.int (nI b) :: .int (nI a) :: rest)) :=
  lv_idiv hexec hb hdg (nI_ne0 h0 h1) (lv_teq (pk_div ha h0 h1) k)
theorem lv_iremN (hexec : p.tables.exec = Jvm.exec) (hb : c.code = cc) {a b : Nat} (ha : a < 2147483648) (h0 : 0 < b) (h1 : b < 2147483648) (hdg : decode cc pc = .ok (.irem, 1)) (k : W p l e R s m args below meth c H locs cells slots Q (F0 m (pc + 1) ls (.int (nI (a % b)) :: rest))) : W p l e R s m args below meth c H locs cells slots Q (F0 m pc ls (.int (nI b) :: .int (nI a) :: rest)) :=
  lv_irem hexec hb hdg (nI_ne0 h0 h1) (lv_teq (pk_rem ha h0 h1) k)
end BASE
