/-! THE LAW'S METHODS: the object's world with the array that takes an answer; calls into the class, what they throw is caught -/
abbrev lTys (ct : Nat → ClassId) (cL : ClassId) : List (ClassId × FieldType) := fTys ct ++ [(cL, .long)]
theorem lTys_f {D : va_G} {ct : Nat → ClassId} {cL : ClassId} {U : State} (h : va_K D vwCl (lTys ct cL) U) : va_K D vwCl (fTys ct) U := ⟨h.1, fun k q hq => h.2 k q (by rw [List.getElem?_append_left ((List.getElem?_eq_some_iff.mp hq).1)]; exact hq)⟩
/-- the object's 198 names and the array -/
def ouF (v : Int64) : Nat → Int64 := fun j => if j = 0 then v else 0
def oc (cL : ClassId) (ce : Nat → va_E) (v : Int64) : Nat → va_E := fun i => if i < 198 then ce i else .inl (cL, 1, .inr (.inl (ouF v)))
def lE (U : State) : Prop := va_Nc EA EI U ∧ va_Nc ES EI U ∧ va_Nc ES EA U
theorem lE.to {s U : State} (h : lE s) (hW : s.vm.Alike U.vm) : lE U := ⟨va_Nc.moved hW h.1, va_Nc.moved hW h.2.1, va_Nc.moved hW h.2.2⟩
def oW (D : va_G) (ct : Nat → ClassId) (cL : ClassId) (ad : Nat → Nat) (ce : Nat → va_E) (v : Int64) (U : State) : Prop := fP D 199 ad (oc cL ce v) U.heap ∧ va_K D vwCl (lTys ct cL) U ∧ fI 199 ad
def oQ (D : va_G) (ct : Nat → ClassId) (cL : ClassId) (ad : Nat → Nat) (k : Int32) (ce' : Nat → va_E) (v' : Int64) : Array Value → State → Outcome → State → Prop := fun _ st o t => (o = .returned (some (.int k)) ∧ oW D ct cL ad ce' v' t) ∧ va_F (fA 199 ad) st t
/-- a method of the law around a call: it answers k and leaves v' -/
def OMet (l : Launch) (y : MethodName) (cc : ByteArray) (maxL : Nat) (hh : List (Nat × Nat × Nat × Nat)) (D : va_G) (ct : Nat → ClassId) (cL : ClassId) (ad : Nat → Nat) (av : List Value) (ce : Nat → va_E) (v : Int64) (k : Int32) (ce' : Nat → va_E) (v' : Int64) : Prop :=
  vx_Met l y (Cond.codeWith y cc maxL (some .int) hh :: wB) ({ frames := 12, cells := 1, slots := 6, locals := 480 }) (va_Pc av (fun U => oW D ct cL ad ce v U ∧ gE (fA 199 ad) U U.heap ∧ lE U)) (oQ D ct cL ad k ce' v') (fun _ _ _ => False) 1 6 (fA 199 ad)
section OLW
variable {p : Program} {l : Launch} {e : Env} {R : Room} {s : State} {m : MethodId} {args : Array Value} {below : List Frame} {meth : Method} {c : Code} {H : Heap} {locs : List Loc} {cells slots : Nat} {Q : State → Prop}
variable {cc : ByteArray} {pc : Nat} {ls : Array Slot} {rest : List Value} {D : va_G} {ct : Nat → ClassId} {cL : ClassId} {ad : Nat → Nat} {ce ce' : Nat → va_E} {v v' : Int64}
theorem W_wide {g : JFrame} {k n : Nat} (h1 : cells ≤ k) (h2 : slots ≤ n) (kk : W p l e R s m args below meth c H locs k n Q g) : W p l e R s m args below meth c H locs cells slots Q g := fun T hT X => kk T hT (stand_widen X h1 h2)
theorem OMet.of {y : MethodName} {maxL : Nat} {hh : List (Nat × Nat × Nat × Nat)} {av : List Value} {k : Int32} (hy : plainName y.cls = true) (hlen : (lg_sl av).length ≤ maxL)
    (body : ∀ (p : Program) (e : Env) (s : State) (m : MethodId) (args : Array Value) (below : List Frame) (meth : Method) (c : Code) (ls : Array Slot), p.tables.exec = Jvm.exec → c.code = cc → meth.sig.returnType = some .int → c.maxLocals = maxL → s.vm.findClass y.cls = some m.cls → meth.locks = false → (∀ w ∈ wB, w.before args s = true) → va_K D vwCl (lTys ct cL) s → fI 199 ad → fP D 199 ad (oc cL ce v) s.heap → va_S (fA 199 ad) s.heap s.heap [] → lv_has ls maxL (lv_args 0 av) → c.exceptionTable.toList = tableOf hh → gE (fA 199 ad) s s.heap → lE s →
      W p l e ({ frames := 12, cells := 1, slots := 6, locals := 480 }) s m args below meth c s.heap [] 0 0 (vx_MQ below (oQ D ct cL ad k ce' v') (fun _ _ _ => False) args s 1 6 (fA 199 ad)) (F0 m 0 ls [])) : OMet l y cc maxL hh D ct cL ad av ce v k ce' v' := by
  refine vx_ofWH (cc := cc) (maxL := maxL) (ret := some .int) (hh := hh) hy rfl ?_
  intro p e s m args below meth c s₁ B hml hv
  obtain ⟨rfl, ⟨hP, hK, hI⟩, hE, hlE⟩ := hv
  have hts := atoms_spec (ws := Cond.codeWith y cc maxL (some .int) hh :: wB) B.pre
  have hl := lv_entry av (n := maxL) hlen
  have htab := vx_table (x := y) B (hts _ List.mem_cons_self)
  rw [lg_entry_eq]
  exact body p e s m _ below meth c _ B.exec B.bytes B.returns hml (findClass_of_methodNamed B.named) B.notSynchronized (fun w hw => hts w (List.mem_cons_of_mem _ hw)) hK hI hP va_S.rf hl htab hE hlE
end OLW
