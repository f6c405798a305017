/-! EXCEPTIONS OF THE CLASS: their words -/
abbrev EA : String := "java/lang/IllegalArgumentException"
abbrev EI : String := "java/lang/IndexOutOfBoundsException"
abbrev ES : String := "java/lang/IllegalStateException"
/-- the words that aren't kept by themselves -/
def gW : List Cond := [.declares (Bundle.initS "java/lang/RuntimeException"), .declares (Bundle.initS "java/lang/Exception"), .declares (Bundle.initS Bundle.tN), .castable EA EA, .castable EI EI, .castable ES ES]
theorem xb {w : Cond} (h : w ∈ lw_tbl) (g : goodWord w = true) : w ∈ wB := List.mem_filter.mpr ⟨h, g⟩
/-- the texts -/
def gS : List (Nat × String) := [(43, "a load is 1 to 500, a rank 1 to 9"), (48, "an hour of the day is 0 to 23"), (56, "there are 10 stalls"), (79, "a stall is at this socket"), (95, "the stall is at no socket"), (113, "the breaker has not tripped"), (131, "the hour would be above 9999"), (156, "the buffer has 60 characters"), (168, "the buffer does not tell a plan"), (179, "there is no snapshot in the slot"), (184, "there is no saved state"), (315, "there is no such stall"), (318, "there is no such setting"), (320, "an argument is out of range")]
def leV (j : Nat) : Int32 := if j = 0 then nI 1 else if j = 1 then nI 0 else nI 1
def moV (j : Nat) : Int32 := if j = 0 then nI 9 else if j = 1 then nI 1 else nI 99
/-- what a throw, and a setting's bounds, stand on: the machine's own statics, the texts, the words above, two rows of numbers; none of it in A -/
def gE (A : Nat → Prop) (U : State) (H : Heap) : Prop :=
  vx_Zq Bundle.tN "UNASSIGNED_STACK" Bundle.steD A U H ∧ vx_Zq Bundle.tN "SUPPRESSED_SENTINEL" Bundle.listD A U H ∧ (∀ q ∈ gS, ∃ a, vk_R RX5 q.1 q.2 a U) ∧ (∀ w ∈ gW, va_Nw w U) ∧ (∃ t, va_Z RX5 "LEAST_VALUES" "[I" (.ref t) A U H ∧ va_T .int t 3 (fun j => .int (leV j)) A U H) ∧ ∃ t, va_Z RX5 "MOST_VALUES" "[I" (.ref t) A U H ∧ va_T .int t 3 (fun j => .int (moV j)) A U H
theorem gW_moved {s U : State} (hW : s.WarmedH U.vm) (h : ∀ w ∈ gW, va_Nw w s) : ∀ w ∈ gW, va_Nw w U := by
  intro w hw
  have h1 := h w hw
  simp only [gW, List.mem_cons, List.mem_nil_iff, or_false] at hw
  rcases hw with rfl | rfl | rfl | rfl | rfl | rfl
  · exact va_Nw.warmD hW h1
  · exact va_Nw.warmD hW h1
  · exact va_Nw.warmD hW h1
  · exact va_Nw.warmC hW h1
  · exact va_Nw.warmC hW h1
  · exact va_Nw.warmC hW h1
theorem gE.to {A : Nat → Prop} {s U : State} {H0 H : Heap} (h : gE A s H0) (hW : s.WarmedH U.vm) (hq : ∀ a : Nat, a < H0.size → ¬ A a → H[a]? = H0[a]?) : gE A U H := by
  obtain ⟨h1, h2, h3, h4, ⟨t, t1, t2⟩, r, r1, r2⟩ := h
  exact ⟨vx_Zq.moved hW.alike (h1.kept hq), vx_Zq.moved hW.alike (h2.kept hq), fun q hq' => (h3 q hq').imp (fun a ha => vk_R.warm hW ha), gW_moved hW h4, ⟨t, va_Z.moved hW.alike (t1.kept hq), va_T.moved hW.alike (t2.kept hq)⟩, r, va_Z.moved hW.alike (r1.kept hq), va_T.moved hW.alike (r2.kept hq)⟩
/-- where a method of the class has thrown E: the world -/
def XF (D : va_G) (ct : Nat → ClassId) (N : Nat) (ad : Nat → Nat) (E : String) (ce' : Nat → va_E) : String → State → State → Prop := fun E1 st t => E1 = E ∧ fW D ct N ad ce' t ∧ va_F (fA N ad) st t
/-- a method that throws E -/
def TMet (l : Launch) (y : MethodName) (cc : ByteArray) (maxL : Nat) (ret : Option FieldType) (fr lo : Nat) (D : va_G) (ct : Nat → ClassId) (N : Nat) (ad : Nat → Nat) (av : List Value) (ce : Nat → va_E) (E : String) (ce' : Nat → va_E) : Prop :=
  vx_Met l y (Cond.code y cc maxL ret :: wB) ({ frames := fr, cells := 1, slots := 6, locals := lo }) (va_Pc av (fun U => fW D ct N ad ce U ∧ gE (fA N ad) U U.heap)) (fun _ _ _ _ => False) (XF D ct N ad E ce') 1 6 (fA N ad)
section XC
variable {p : Program} {l : Launch} {e : Env} {R : Room} {s : State} {m : MethodId} {args : Array Value} {below : List Frame} {meth : Method} {c : Code} {H : Heap} {locs : List Loc} {cells slots : Nat} {Q : State → Prop}
variable {cc : ByteArray} {pc : Nat} {ls : Array Slot} {rest : List Value} {D : va_G} {ct : Nat → ClassId} {N : Nat} {ad : Nat → Nat} {ce ce' : Nat → va_E} {A0 : Nat → Prop} {H0 : Heap}
theorem TMet.of {y : MethodName} {maxL : Nat} {ret : Option FieldType} {fr lo : Nat} {av : List Value} {E : String} (hy : plainName y.cls = true) (hlen : (lg_sl av).length ≤ maxL)
    (body : ∀ (p : Program) (e : Env) (s : State) (m : MethodId) (args : Array Value) (below : List Frame) (meth : Method) (c : Code) (ls : Array Slot), p.tables.exec = Jvm.exec → c.code = cc → meth.sig.returnType = ret → c.maxLocals = maxL → s.vm.findClass y.cls = some m.cls → meth.locks = false → (∀ w ∈ wB, w.before args s = true) → va_K D vwCl (fTys ct) s → fI N ad → fP D N ad ce s.heap → va_S (fA N ad) s.heap s.heap [] → lv_has ls maxL (lv_args 0 av) → (∀ x ∈ c.exceptionTable.toList, False) → gE (fA N ad) s s.heap →
      W p l e ({ frames := fr, cells := 1, slots := 6, locals := lo }) s m args below meth c s.heap [] 0 0 (vx_MQ below (fun _ _ _ _ => False) (XF D ct N ad E ce') args s 1 6 (fA N ad)) (F0 m 0 ls [])) : TMet l y cc maxL ret fr lo D ct N ad av ce E ce' := by
  refine vx_ofW (cc := cc) (maxL := maxL) (ret := ret) hy rfl ?_
  intro p e s m args below meth c s₁ B hml ht hv
  obtain ⟨rfl, ⟨hP, hK, hI⟩, hE⟩ := hv
  have hts := atoms_spec (ws := Cond.code y cc maxL ret :: wB) B.pre
  have hl := lv_entry av (n := maxL) hlen
  rw [lg_entry_eq]
  exact body p e s m _ below meth c _ B.exec B.bytes B.returns hml (findClass_of_methodNamed B.named) B.notSynchronized (fun w hw => hts w (List.mem_cons_of_mem _ hw)) hK hI hP va_S.rf hl ht hE
end XC
