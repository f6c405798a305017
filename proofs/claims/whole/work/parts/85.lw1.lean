/-! THE LAW'S METHODS: the object's world with the array that takes an answer; calls into the class, what they throw is caught -/
abbrev lTys (ct : Nat → ClassId) (cL : ClassId) : List (ClassId × FieldType) := fTys ct ++ [(cL, .long)]
theorem lTys_f {D : va_G} {ct : Nat → ClassId} {cL : ClassId} {U : State} (h : va_K D vwCl (lTys ct cL) U) : va_K D vwCl (fTys ct) U := ⟨h.1, fun k q hq => h.2 k q (by rw [List.getElem?_append_left ((List.getElem?_eq_some_iff.mp hq).1)]; exact hq)⟩
/-- the object's 198 names and the array -/
def ouF (v : Int64) : Nat → Int64 := fun j => if j = 0 then v else 0
def oc (cL : ClassId) (ce : Nat → va_E) (v : Int64) : Nat → va_E := fun i => if i < 198 then ce i else .inl (cL, 1, .inr (.inl (ouF v)))
theorem oc_l {cL : ClassId} {ce : Nat → va_E} {v : Int64} {i : Nat} (h : i < 198) : oc cL ce v i = ce i := if_pos h
theorem oc_r {cL : ClassId} {ce : Nat → va_E} {v : Int64} : oc cL ce v 198 = .inl (cL, 1, .inr (.inl (ouF v))) := if_neg (by omega)
def lE (U : State) : Prop := va_Nc EA EI U ∧ va_Nc ES EI U ∧ va_Nc ES EA U
theorem lE.to {s U : State} (h : lE s) (hW : s.vm.Alike U.vm) : lE U := ⟨va_Nc.moved hW h.1, va_Nc.moved hW h.2.1, va_Nc.moved hW h.2.2⟩
def oW (D : va_G) (ct : Nat → ClassId) (cL : ClassId) (ad : Nat → Nat) (ce : Nat → va_E) (v : Int64) (U : State) : Prop := fP D 199 ad (oc cL ce v) U.heap ∧ va_K D vwCl (lTys ct cL) U ∧ fI 199 ad
def oQ (D : va_G) (ct : Nat → ClassId) (cL : ClassId) (ad : Nat → Nat) (k : Int32) (ce' : Nat → va_E) (v' : Int64) : Array Value → State → Outcome → State → Prop := fun _ st o t => (o = .returned (some (.int k)) ∧ oW D ct cL ad ce' v' t) ∧ va_F (fA 199 ad) st t
/-- a method of the law around a call: it answers k and leaves v' -/
def OMet (l : Launch) (y : MethodName) (cc : ByteArray) (maxL : Nat) (hh : List (Nat × Nat × Nat × Nat)) (D : va_G) (ct : Nat → ClassId) (cL : ClassId) (ad : Nat → Nat) (av : List Value) (ce : Nat → va_E) (v : Int64) (k : Int32) (ce' : Nat → va_E) (v' : Int64) : Prop :=
  vx_Met l y (Cond.codeWith y cc maxL (some .int) hh :: wB) ({ frames := 12, cells := 1, slots := 6, locals := 480 }) (va_Pc av (fun U => oW D ct cL ad ce v U ∧ gE (fA 199 ad) U U.heap ∧ lE U)) (oQ D ct cL ad k ce' v') (fun _ _ _ => False) 1 6 (fA 199 ad)
section OLW
variable {p : Program} {l : Launch} {e : Env} {R : Room} {s : State} {m : MethodId} {args : Array Value} {below : List Frame} {meth : Method} {c : Code} {H : Heap} {locs : List Loc} {cells slots : Nat} {Q : State → Prop}
variable {cc : ByteArray} {pc : Nat} {ls : Array Slot} {rest : List Value} {D : va_G} {ct : Nat → ClassId} {cL : ClassId} {ad : Nat → Nat} {ce ce' : Nat → va_E} {v v' : Int64}
theorem W_wide {g : JFrame} {k n : Nat} (h1 : cells ≤ k) (h2 : slots ≤ n) (kk : W p l e R s m args below meth c H locs k n Q g) : W p l e R s m args below meth c H locs cells slots Q g := fun T hT X => kk T hT (stand_widen X h1 h2)
theorem OMet.of {y : MethodName} {maxL : Nat} {hh : List (Nat × Nat × Nat × Nat)} {av : List Value} {k : Int32} (hy : plainName y.cls = true) (hlen : (lg_sl av).length ≤ maxL)
    (body : ∀ (p : Program) (e : Env) (s : State) (m : MethodId) (args : Array Value) (below : List Frame) (meth : Method) (c : Code) (ls : Array Slot), p.tables.exec = Jvm.exec → c.code = cc → meth.sig.returnType = some .int → c.maxLocals = maxL → s.vm.findClass y.cls = some m.cls → meth.locks = false → (∀ w ∈ wB, w.before args s = true) → va_K D vwCl (lTys ct cL) s → fI 199 ad → fP D 199 ad (oc cL ce v) s.heap → va_S (fA 199 ad) s.heap s.heap [] → lv_has ls maxL (lv_args 0 av) → c.exceptionTable.toList = tableOf hh → gE (fA 199 ad) s s.heap → lE s →
      W p l e ({ frames := 12, cells := 1, slots := 6, locals := 480 }) s m args below meth c s.heap [] 0 0 (vx_MQ below (oQ D ct cL ad k ce' v') (fun _ _ _ => False) args s 1 6 (fA 199 ad)) (F0 m 0 ls [])) : OMet l y cc maxL hh D ct cL ad av ce v k ce' v' := by
  refine vx_ofWH (cc := cc) (maxL := maxL) (ret := some .int) (hh := hh) hy rfl ?_
  intro p e s m args below meth c s₁ B hml hv
  obtain ⟨rfl, ⟨hP, hK, hI⟩, hE, hlE⟩ := hv
  have hts := atoms_spec (ws := Cond.codeWith y cc maxL (some .int) hh :: wB) B.pre
  have hl := lv_entry av (n := maxL) hlen
  have htab := vx_table (x := y) B (hts _ List.mem_cons_self)
  rw [lg_entry_eq]
  exact body p e s m _ below meth c _ B.exec B.bytes B.returns hml (findClass_of_methodNamed B.named) B.notSynchronized (fun w hw => hts w (List.mem_cons_of_mem _ hw)) hK hI hP va_S.rf hl htab hE hlE
theorem oc_fP {H : Heap} (h : fP D 199 ad (oc cL ce v) H) : fP D 198 ad ce H := fP.of fun i hi => by
  have h1 := h.at (k := i) (by omega)
  rw [oc_l hi] at h1
  exact h1
theorem oc_fI (h : fI 199 ad) : fI 198 ad := fun i j hi hj e => h i j (by omega) (by omega) e
theorem oc_fA : ∀ q, fA 198 ad q → fA 199 ad q := fun _ ⟨i, hi, e⟩ => ⟨i, by omega, e⟩
theorem oc_back {H H1 : Heap} (hI : fI 199 ad) (h : fP D 199 ad (oc cL ce v) H) (h1 : fP D 198 ad ce' H1) (hk : ∀ q : Nat, q < H.size → ¬ fA 198 ad q → H1[q]? = H[q]?) : fP D 199 ad (oc cL ce' v) H1 := fP.of fun i hi => by
  by_cases c : i < 198
  · rw [oc_l c]; exact h1.at c
  · obtain rfl : i = 198 := by omega
    have h2 := h.at (k := 198) hi
    rw [oc_r] at h2 ⊢
    refine h2.kept (hk _ (h.lt hi) ?_)
    rintro ⟨j, hj, e⟩
    have := hI _ _ hi (by omega) e
    omega
/-- a call of the class that answers -/
theorem oc_V {nL : Nat} {own : String} {y : MethodName} {cy : ByteArray} {maxL fr lo : Nat} {As st0 : List Value} {rv : Value} {idx n : Nat} {fs : List Value}
    (hx : p.tables.exec = Jvm.exec) (hb : c.code = cc) (hml : c.maxLocals = nL) (hown : s.vm.findClass own = some m.cls) (htg : ∀ w ∈ wB, w.before args s = true) (hK : va_K D vwCl (lTys ct cL) s) (hI : fI 199 ad) (hP : fP D 199 ad (oc cL ce v) H) (hS : va_S (fA 199 ad) s.heap H locs) (hl : ls.size = nL) (hE : gE (fA 199 ad) s s.heap)
    (hM : GMet l y cy maxL (some .int) fr lo D ct 198 ad (.ref (ad 0) :: As) ce (some rv) ce') (hcw : cwf own idx RX5 y cy maxL (some .int) n) (h0 : ce 0 = .inr (5, fs))
    (hst : st0 = As.reverse ++ .ref (ad 0) :: rest) (hn : As.length = n) (hR : fr + 1 ≤ R.frames ∧ 8 + (maxL + 11) + lo ≤ R.locals) (hroom : (rest.map fun v => v.category).sum ≤ 8) (hdg : decode cc pc = .ok (.invokevirtual idx, 3)) (hf : cells ≤ R.cells ∧ slots ≤ R.slots)
    (kk : ∀ (H1 : Heap) (locs1 : List Loc), fP D 199 ad (oc cL ce' v) H1 → va_S (fA 199 ad) s.heap H1 locs1 → W p l e R s m args below meth c H1 locs1 cells slots Q (F0 m (pc + 3) ls (rv :: rest))) : W p l e R s m args below meth c H locs cells slots Q (F0 m pc ls st0) := by
  intro T hT X
  have hK1 := lTys_f hK
  have hP1 := oc_fP hP
  have hI1 := oc_fI hI
  obtain ⟨v9, st₀, t, T', L, h09, X', hL, e1, e2, ⟨⟨hv, hw1, hw2, hw3⟩, hz, hk⟩, st⟩ := va_runV (As := As) (rest := rest) (g := F0 m pc ls st0) ⟨hx, hb, hml, hown, htg⟩ hM (cwV n htg hcw.1 rfl rfl rfl hcw.2 hR) ⟨tW_blind, va_recv hK1 hP1 (ci := 5) rfl (by rw [← h0]; exact vl_get (by omega)), fun U hU hW => ⟨rfl, ⟨by rw [hU]; exact hP1, va_K.moved hW.alike hK1, hI1⟩, by rw [hU]; exact (hE.to hW hS.2.1).narrow oc_fA⟩⟩ rfl hn hl hst (lv_room hroom) hdg hf T hT X
  cases hv
  rw [h09] at hz hk
  obtain ⟨t2, a1, b1⟩ := kk T'.heap (locs ++ L) (oc_back hI hP (by rw [e1]; exact hw1) (fun q h1 h2 => by rw [e1]; exact hk q h1 h2))
    ⟨Nat.le_trans hS.1 (by rw [e1]; exact hz), fun q h1 h2 => by rw [e1, hk q (Nat.lt_of_lt_of_le h1 hS.1) (fun z => h2 (oc_fA q z))]; exact hS.2.1 q h1 h2, fun q hq => by
      rcases List.mem_append.mp hq with h | h
      · exact hS.2.2 q h
      · exact oc_fA _ (hL q h)⟩ T' rfl X'
  exact ⟨t2, st t2 a1, b1⟩
/-- a call of the class that throws E, caught by a row of the table -/
theorem oc_T {nL : Nat} {own : String} {y : MethodName} {cy : ByteArray} {maxL fr lo : Nat} {As st0 : List Value} {E : String} {idx n : Nat} {fs : List Value} {pre suf : List ExceptionTableEntry} {x : ExceptionTableEntry}
    (hx : p.tables.exec = Jvm.exec) (hb : c.code = cc) (hml : c.maxLocals = nL) (hown : s.vm.findClass own = some m.cls) (htg : ∀ w ∈ wB, w.before args s = true) (hK : va_K D vwCl (lTys ct cL) s) (hI : fI 199 ad) (hP : fP D 199 ad (oc cL ce v) H) (hS : va_S (fA 199 ad) s.heap H locs) (hl : ls.size = nL) (hE : gE (fA 199 ad) s s.heap)
    (htab : c.exceptionTable.toList = pre ++ x :: suf) (hpass : ∀ z ∈ pre, z.catchType ≠ 0 ∧ ∃ nm : String, Cond.classLink own z.catchType nm ∈ wB ∧ va_Nc E nm s) (hxc : covers x pc = true) (hx0 : x.catchType ≠ 0) (hlink : Cond.classLink own x.catchType E ∈ wB) (hgW : Cond.castable E E ∈ gW)
    (hM : TMet l y cy maxL (some .int) fr lo D ct 198 ad (.ref (ad 0) :: As) ce E ce') (hcw : cwf own idx RX5 y cy maxL (some .int) n) (h0 : ce 0 = .inr (5, fs))
    (hst : st0 = As.reverse ++ .ref (ad 0) :: rest) (hn : As.length = n) (hR : fr + 1 ≤ R.frames ∧ 8 + (maxL + 11) + lo ≤ R.locals) (hroom : (rest.map fun v => v.category).sum ≤ 8) (hdg : decode cc pc = .ok (.invokevirtual idx, 3)) (hf : cells + 1 ≤ R.cells ∧ slots + 6 ≤ R.slots)
    (kk : ∀ (q : Nat) (H1 : Heap) (locs1 : List Loc), fP D 199 ad (oc cL ce' v) H1 → va_S (fA 199 ad) s.heap H1 locs1 → W p l e R s m args below meth c H1 locs1 (cells + 1) (slots + 6) Q (F0 m x.handlerPc ls [.ref q])) : W p l e R s m args below meth c H locs cells slots Q (F0 m pc ls st0) := by
  intro T hT X
  have hK1 := lTys_f hK
  have hP1 := oc_fP hP
  have hI1 := oc_fI hI
  rcases vx_runV (As := As) (rest := rest) (g := F0 m pc ls st0) ⟨hx, hb, hml, hown, htg⟩ hM (cwV n htg hcw.1 rfl rfl rfl hcw.2 hR) ⟨tW_blind, va_recv hK1 hP1 (ci := 5) rfl (by rw [← h0]; exact vl_get (by omega)), fun U hU hW => ⟨rfl, ⟨by rw [hU]; exact hP1, va_K.moved hW.alike hK1, hI1⟩, by rw [hU]; exact (hE.to hW hS.2.1).narrow oc_fA⟩⟩ rfl hn hl hst (lv_room hroom) hdg hf T hT X with ⟨v9, st₀, t, T', L, h09, X', hL, e1, e2, hF, st⟩ | ⟨q, st₀, t, T', L, E9, ce9, h09, X', hL, e1, e2, ⟨hE9, ⟨hw1, hw2, hw3⟩, hz, hk⟩, hce9, hcv, hcl, st⟩
  · exact absurd hF id
  · rw [h09] at hz hk
    subst hE9
    have hS1 : va_S (fA 199 ad) s.heap T'.heap (locs ++ L) := ⟨Nat.le_trans hS.1 (by rw [e1]; exact hz), fun q h1 h2 => by rw [e1, hk q (Nat.lt_of_lt_of_le h1 hS.1) (fun z => h2 (oc_fA q z))]; exact hS.2.1 q h1 h2, fun q hq => by
      rcases List.mem_append.mp hq with h | h
      · exact hS.2.2 q h
      · exact oc_fA _ (hL q h)⟩
    obtain ⟨t2, a1, b1⟩ := vx_catch (p := p) (l := l) (e := e) (R := R) (s := s) (m := m) (args := args) (below := below) (meth := meth) (c := c) (H := T'.heap) (locs := locs ++ L) (cells := cells + 1) (slots := slots + 6) (Q := Q) (pc := pc) (ls := ls) (rest := rest) (E := E9) (name := E9) (ce := ce9) (q := q) hown pre x suf htab (fun z hz9 => by
        obtain ⟨a, nm, b, d⟩ := hpass z hz9
        exact Or.inr ⟨a, nm, htg _ b, d⟩) hxc hx0 (htg _ hlink) (va_Nw.use (gW_ot _ hgW) (hE.2.2.2.1 _ hgW)) (by rw [e1]; exact hce9) hcv hcl (kk q T'.heap (locs ++ L) (oc_back hI hP (by rw [e1]; exact hw1) (fun q h1 h2 => by rw [e1]; exact hk q h1 h2)) hS1) T' rfl X'
    exact ⟨t2, st.trans a1, b1⟩
/-- the answer laid into the array -/
theorem oc_out {x : Int64} (hx : p.tables.exec = Jvm.exec) (hb : c.code = cc) (hK : va_K D vwCl (lTys ct cL) s) (hI : fI 199 ad) (hP : fP D 199 ad (oc cL ce v) H) (hS : va_S (fA 199 ad) s.heap H locs) (hdg : decode cc pc = .ok (.lastore, 1))
    (kk : ∀ (H1 : Heap) (locs1 : List Loc), fP D 199 ad (oc cL ce x) H1 → va_S (fA 199 ad) s.heap H1 locs1 → W p l e R s m args below meth c H1 locs1 cells slots Q (F0 m (pc + 1) ls rest)) : W p l e R s m args below meth c H locs cells slots Q (F0 m pc ls (.long x :: .int 0 :: .ref (ad 198) :: rest)) := by
  refine va_last hx hb hK hP (fD hI (fun k hk => fA_in hk)) hS 198 6 (cA := cL) (n := 1) (f := ouF v) ((vl_get (by omega)).trans (by rw [oc_r])) rfl (show vp_in (nI 0) 1 from nI_in (by decide) (by decide)) hdg (fun H1 l1 h1 _ h3 => kk H1 l1 ?_ h3)
  refine fP.ext (by unfold fP; rw [← vl_set]; exact h1) (fun k hk => ?_)
  by_cases c : k < 198
  · rw [va_up_ne _ _ (show k ≠ 198 by omega), oc_l c, oc_l c]
  · obtain rfl : k = 198 := by omega
    rw [oc_r]
    unfold va_up
    rw [if_pos rfl]
    have e9 : vp_updL (ouF v) (0 : Int32).toNatClampNeg x = ouF x := by
      funext j
      show (if j = 0 then x else ouF v j) = ouF x j
      unfold ouF
      by_cases q : j = 0
      · rw [if_pos q, if_pos q]
      · rw [if_neg q, if_neg q, if_neg q]
    rw [e9]
theorem oc_ret {k : Int32} (hx : p.tables.exec = Jvm.exec) (hb : c.code = cc) (hr : meth.sig.returnType = some .int) (hlocks : meth.locks = false) (hK : va_K D vwCl (lTys ct cL) s) (hI : fI 199 ad) (hP : fP D 199 ad (oc cL ce' v') H) (hS : va_S (fA 199 ad) s.heap H locs) (hc : cells ≤ 1 ∧ slots ≤ 6) (hdg : decode cc pc = .ok (.ireturn, 1)) :
    W p l e R s m args below meth c H locs cells slots (vx_MQ below (oQ D ct cL ad k ce' v') (fun _ _ _ => False) args s 1 6 (fA 199 ad)) (F0 m pc ls [.int k]) :=
  W_wide hc.1 hc.2 (vx_ret (W.zret hx hb hr rfl (fun t ht hW => ⟨⟨rfl, by rw [ht]; exact hP, va_K.moved hW.alike hK, hI⟩, hS.F ht⟩) hS.2.2 hdg hlocks))
end OLW
