/-! EXCEPTIONS OF THE CLASS: their words -/
abbrev EA : String := "java/lang/IllegalArgumentException"
abbrev EI : String := "java/lang/IndexOutOfBoundsException"
abbrev ES : String := "java/lang/IllegalStateException"
abbrev xNm : List String := ["java/lang/RuntimeException", "java/lang/Exception"]
theorem xm_A : ∀ w ∈ vx_atS RX5 45 EA xNm, w ∈ lw_tbl := by decide +kernel
theorem xm_S : ∀ w ∈ vx_atS RX5 58 ES xNm, w ∈ lw_tbl := by decide +kernel
theorem xm_I : ∀ w ∈ vx_atS RX5 317 EI xNm, w ∈ lw_tbl := by decide +kernel
/-- the words that aren't kept by themselves -/
def gW : List Cond := [.declares (Bundle.initS "java/lang/RuntimeException"), .declares (Bundle.initS "java/lang/Exception"), .declares (Bundle.initS Bundle.tN), .castable EA EA, .castable EI EI, .castable ES ES]
theorem xn_A : ∀ w ∈ (vx_atS RX5 45 EA xNm).filter (fun w => !goodWord w), w ∈ gW := by decide +kernel
theorem xn_S : ∀ w ∈ (vx_atS RX5 58 ES xNm).filter (fun w => !goodWord w), w ∈ gW := by decide +kernel
theorem xn_I : ∀ w ∈ (vx_atS RX5 317 EI xNm).filter (fun w => !goodWord w), w ∈ gW := by decide +kernel
theorem gW_tbl : ∀ w ∈ gW, w ∈ lw_tbl := by decide +kernel
theorem xo_A : ∀ w ∈ Cond.classLink RX5 41 EA :: Cond.initialized EA :: vx_atS RX5 45 EA xNm, vx_ot w = true := by decide +kernel
theorem xo_S : ∀ w ∈ Cond.classLink RX5 54 ES :: Cond.initialized ES :: vx_atS RX5 58 ES xNm, vx_ot w = true := by decide +kernel
theorem xo_I : ∀ w ∈ Cond.classLink RX5 313 EI :: Cond.initialized EI :: vx_atS RX5 317 EI xNm, vx_ot w = true := by decide +kernel
theorem xl_A : Cond.classLink RX5 41 EA ∈ lw_tbl ∧ Cond.initialized EA ∈ lw_tbl := ⟨by decide +kernel, by decide +kernel⟩
theorem xl_S : Cond.classLink RX5 54 ES ∈ lw_tbl ∧ Cond.initialized ES ∈ lw_tbl := ⟨by decide +kernel, by decide +kernel⟩
theorem xl_I : Cond.classLink RX5 313 EI ∈ lw_tbl ∧ Cond.initialized EI ∈ lw_tbl := ⟨by decide +kernel, by decide +kernel⟩
theorem xb {w : Cond} (h : w ∈ lw_tbl) (g : goodWord w = true) : w ∈ wB := List.mem_filter.mpr ⟨h, g⟩
/-- the texts -/
def gS : List (Nat × String) := [(43, "a load is 1 to 500, a rank 1 to 9"), (48, "an hour of the day is 0 to 23"), (56, "there are 10 stalls"), (79, "a stall is at this socket"), (95, "the stall is at no socket"), (113, "the breaker has not tripped"), (131, "the hour would be above 9999"), (156, "the buffer has 60 characters"), (168, "the buffer does not tell a plan"), (179, "there is no snapshot in the slot"), (184, "there is no saved state"), (315, "there is no such stall"), (318, "there is no such setting"), (320, "an argument is out of range")]
theorem gS_tbl : ∀ q ∈ gS, Cond.stringRef RX5 q.1 q.2 ∈ lw_tbl := by decide +kernel
def leV (j : Nat) : Int32 := if j = 0 then nI 1 else if j = 1 then nI 0 else nI 1
def moV (j : Nat) : Int32 := if j = 0 then nI 9 else if j = 1 then nI 1 else nI 99
/-- what a throw, and a setting's bounds, stand on: the machine's own statics, the texts, the words above, two rows of numbers; none of it in A -/
def gE (A : Nat → Prop) (U : State) (H : Heap) : Prop :=
  vx_Zq Bundle.tN "UNASSIGNED_STACK" Bundle.steD A U H ∧ vx_Zq Bundle.tN "SUPPRESSED_SENTINEL" Bundle.listD A U H ∧ (∀ q ∈ gS, ∃ a, vk_R RX5 q.1 q.2 a U) ∧ (∀ w ∈ gW, va_Nw w U) ∧ (∃ t, va_Z RX5 "LEAST_VALUES" "[I" (.ref t) A U H ∧ va_T .int t 3 (fun j => .int (leV j)) A U H) ∧ ∃ t, va_Z RX5 "MOST_VALUES" "[I" (.ref t) A U H ∧ va_T .int t 3 (fun j => .int (moV j)) A U H
theorem gW_moved {s U : State} (hW : s.WarmedH U.vm) (h : ∀ w ∈ gW, va_Nw w s) : ∀ w ∈ gW, va_Nw w U := by
  intro w hw
  have h1 := h w hw
  simp only [gW, List.mem_cons, List.mem_nil_iff, or_false] at hw
  rcases hw with rfl | rfl | rfl | rfl | rfl | rfl
  · exact va_Nw.warmD hW h1
  · exact va_Nw.warmD hW h1
  · exact va_Nw.warmD hW h1
  · exact va_Nw.warmC hW h1
  · exact va_Nw.warmC hW h1
  · exact va_Nw.warmC hW h1
theorem gE.to {A : Nat → Prop} {s U : State} {H0 H : Heap} (h : gE A s H0) (hW : s.WarmedH U.vm) (hq : ∀ a : Nat, a < H0.size → ¬ A a → H[a]? = H0[a]?) : gE A U H := by
  obtain ⟨h1, h2, h3, h4, ⟨t, t1, t2⟩, r, r1, r2⟩ := h
  exact ⟨vx_Zq.moved hW.alike (h1.kept hq), vx_Zq.moved hW.alike (h2.kept hq), fun q hq' => (h3 q hq').imp (fun a ha => vk_R.warm hW ha), gW_moved hW h4, ⟨t, va_Z.moved hW.alike (t1.kept hq), va_T.moved hW.alike (t2.kept hq)⟩, r, va_Z.moved hW.alike (r1.kept hq), va_T.moved hW.alike (r2.kept hq)⟩
theorem gE.narrow {A B : Nat → Prop} {U : State} {H : Heap} (h : gE A U H) (hAB : ∀ q, B q → A q) : gE B U H := by
  obtain ⟨h1, h2, h3, h4, ⟨t, t1, t2⟩, r, r1, r2⟩ := h
  exact ⟨h1.narrow hAB, h2.narrow hAB, h3, h4, ⟨t, t1.narrow hAB, t2.narrow hAB⟩, r, r1.narrow hAB, r2.narrow hAB⟩
/-- where a method of the class has thrown E: the world -/
def XF (D : va_G) (ct : Nat → ClassId) (N : Nat) (ad : Nat → Nat) (E : String) (ce' : Nat → va_E) : String → State → State → Prop := fun E1 st t => E1 = E ∧ fW D ct N ad ce' t ∧ va_F (fA N ad) st t
/-- a method that throws E -/
def TMet (l : Launch) (y : MethodName) (cc : ByteArray) (maxL : Nat) (ret : Option FieldType) (fr lo : Nat) (D : va_G) (ct : Nat → ClassId) (N : Nat) (ad : Nat → Nat) (av : List Value) (ce : Nat → va_E) (E : String) (ce' : Nat → va_E) : Prop :=
  vx_Met l y (Cond.code y cc maxL ret :: wB) ({ frames := fr, cells := 1, slots := 6, locals := lo }) (va_Pc av (fun U => fW D ct N ad ce U ∧ gE (fA N ad) U U.heap)) (fun _ _ _ _ => False) (XF D ct N ad E ce') 1 6 (fA N ad)
section XC
variable {p : Program} {l : Launch} {e : Env} {R : Room} {s : State} {m : MethodId} {args : Array Value} {below : List Frame} {meth : Method} {c : Code} {H : Heap} {locs : List Loc} {cells slots : Nat} {Q : State → Prop}
variable {cc : ByteArray} {pc : Nat} {ls : Array Slot} {rest : List Value} {D : va_G} {ct : Nat → ClassId} {N : Nat} {ad : Nat → Nat} {ce ce' : Nat → va_E} {A0 : Nat → Prop} {H0 : Heap}
theorem TMet.of {y : MethodName} {maxL : Nat} {ret : Option FieldType} {fr lo : Nat} {av : List Value} {E : String} (hy : plainName y.cls = true) (hlen : (lg_sl av).length ≤ maxL)
    (body : ∀ (p : Program) (e : Env) (s : State) (m : MethodId) (args : Array Value) (below : List Frame) (meth : Method) (c : Code) (ls : Array Slot), p.tables.exec = Jvm.exec → c.code = cc → meth.sig.returnType = ret → c.maxLocals = maxL → s.vm.findClass y.cls = some m.cls → meth.locks = false → (∀ w ∈ wB, w.before args s = true) → va_K D vwCl (fTys ct) s → fI N ad → fP D N ad ce s.heap → va_S (fA N ad) s.heap s.heap [] → lv_has ls maxL (lv_args 0 av) → (∀ x ∈ c.exceptionTable.toList, False) → gE (fA N ad) s s.heap →
      W p l e ({ frames := fr, cells := 1, slots := 6, locals := lo }) s m args below meth c s.heap [] 0 0 (vx_MQ below (fun _ _ _ _ => False) (XF D ct N ad E ce') args s 1 6 (fA N ad)) (F0 m 0 ls [])) : TMet l y cc maxL ret fr lo D ct N ad av ce E ce' := by
  refine vx_ofW (cc := cc) (maxL := maxL) (ret := ret) hy rfl ?_
  intro p e s m args below meth c s₁ B hml ht hv
  obtain ⟨rfl, ⟨hP, hK, hI⟩, hE⟩ := hv
  have hts := atoms_spec (ws := Cond.code y cc maxL ret :: wB) B.pre
  have hl := lv_entry av (n := maxL) hlen
  rw [lg_entry_eq]
  exact body p e s m _ below meth c _ B.exec B.bytes B.returns hml (findClass_of_methodNamed B.named) B.notSynchronized (fun w hw => hts w (List.mem_cons_of_mem _ hw)) hK hI hP va_S.rf hl ht hE
theorem fx_hat {E : String} {ic : Nat} (htg : ∀ w ∈ wB, w.before args s = true) (hE : gE A0 s s.heap) (hm : ∀ w ∈ vx_atS RX5 ic E xNm, w ∈ lw_tbl) (hn : ∀ w ∈ (vx_atS RX5 ic E xNm).filter (fun w => !goodWord w), w ∈ gW) (ho : ∀ w ∈ gW, w.onTables = true) : ∀ w ∈ vx_atS RX5 ic E xNm, w.before args s = true :=
  vx_hat (fun w hw => htg w (xb (hm w (List.mem_filter.mp hw).1) (List.mem_filter.mp hw).2)) hn (fun w hw => va_Nw.use (ho w hw) (hE.2.2.2.1 w hw))
theorem gW_ot : ∀ w ∈ gW, w.onTables = true := by decide
/-- 'throw new E("text")' in a method of the class -/
theorem fx_throw {E text : String} {ik is ic maxL : Nat} (hlt : l.stackTraces = false) (hx : p.tables.exec = Jvm.exec) (hb : c.code = cc) (hml : c.maxLocals = maxL) (hown : s.vm.findClass RX5 = some m.cls) (htg : ∀ w ∈ wB, w.before args s = true) (hlocks : meth.locks = false) (hK : va_K D vwCl (fTys ct) s) (hI : fI N ad) (hP : fP D N ad ce' H) (hS : va_S (fA N ad) s.heap H locs) (hls : ls.size = maxL) (htb : ∀ x ∈ c.exceptionTable.toList, False) (hE : gE (fA N ad) s s.heap)
    (hfit : Bundle.fit E = true) (hcl : Cond.classLink RX5 ik E ∈ lw_tbl ∧ Cond.initialized E ∈ lw_tbl) (hm : ∀ w ∈ vx_atS RX5 ic E xNm, w ∈ lw_tbl) (hn : ∀ w ∈ (vx_atS RX5 ic E xNm).filter (fun w => !goodWord w), w ∈ gW) (ho : ∀ w ∈ Cond.classLink RX5 ik E :: Cond.initialized E :: vx_atS RX5 ic E xNm, vx_ot w = true) (hg1 : goodWord (Cond.classLink RX5 ik E) = true) (hg2 : goodWord (Cond.initialized E) = true) (hs : (is, text) ∈ gS)
    (d0 : decode cc pc = .ok (.new ik, 3)) (d3 : decode cc (pc + 3) = .ok (.dup, 1)) (d4 : decode cc (pc + 4) = .ok (.ldc is, 2)) (d6 : decode cc (pc + 6) = .ok (.invokespecial ic, 3)) (d9 : decode cc (pc + 9) = .ok (.athrow, 1))
    (hR : 5 < R.frames ∧ (rest.map fun v => v.category).sum + 82 ≤ R.locals ∧ 1 ≤ R.cells ∧ 6 ≤ R.slots) : W p l e R s m args below meth c H locs 0 0 (vx_MQ below (fun _ _ _ _ => False) (XF D ct N ad E ce') args s 1 6 (fA N ad)) (F0 m pc ls rest) := by
  obtain ⟨sa, hsa⟩ := hE.2.2.1 _ hs
  exact vx_throwS hx hb hlt hown hfit (by decide) (htg _ (xb hcl.1 hg1)) (htg _ (xb hcl.2 hg2)) hsa (fx_hat htg hE hm hn gW_ot) ho hE.1 hE.2.1 hS (hls.trans hml.symm) d0 d3 d4 d6 d9 (fun x hx1 => absurd hx1 (fun h => htb x h)) hR.1 (by have := hR.2.1; simpa using this) (by have := hR.2.2.1; omega) (by have := hR.2.2.2; omega) hlocks
    (fun t hA hz hk => ⟨rfl, ⟨fP.of (fun k hk1 => (hP.at hk1).kept (hk _ (hP.lt hk1))), va_K.moved hA hK, hI⟩, Nat.le_trans hS.1 hz, fun q hq hnq => (hk q (Nat.lt_of_lt_of_le hq hS.1)).trans (hS.2.1 q hq hnq)⟩) hS.2.2 (Nat.le_refl _) (Nat.le_refl _)
theorem fx_throwW {E text : String} {ik is ic maxL : Nat} (hlt : l.stackTraces = false) (hx : p.tables.exec = Jvm.exec) (hb : c.code = cc) (hml : c.maxLocals = maxL) (hown : s.vm.findClass RX5 = some m.cls) (htg : ∀ w ∈ wB, w.before args s = true) (hlocks : meth.locks = false) (hK : va_K D vwCl (fTys ct) s) (hI : fI N ad) (hP : fP D N ad ce' H) (hS : va_S (fA N ad) s.heap H locs) (hls : ls.size = maxL) (htb : ∀ x ∈ c.exceptionTable.toList, False) (hE : gE (fA N ad) s s.heap)
    (hfit : Bundle.fit E = true) (hcl : Cond.classLink RX5 ik E ∈ lw_tbl ∧ Cond.initialized E ∈ lw_tbl) (hm : ∀ w ∈ vx_atS RX5 ic E xNm, w ∈ lw_tbl) (hn : ∀ w ∈ (vx_atS RX5 ic E xNm).filter (fun w => !goodWord w), w ∈ gW) (ho : ∀ w ∈ Cond.classLink RX5 ik E :: Cond.initialized E :: vx_atS RX5 ic E xNm, vx_ot w = true) (hg1 : goodWord (Cond.classLink RX5 ik E) = true) (hg2 : goodWord (Cond.initialized E) = true) (hs : (is, text) ∈ gS)
    (d0 : decode cc pc = .ok (.new ik, 3)) (d3 : decode cc (pc + 3) = .ok (.dup, 1)) (d4 : decode cc (pc + 4) = .ok (.ldc_w is, 3)) (d7 : decode cc (pc + 7) = .ok (.invokespecial ic, 3)) (d10 : decode cc (pc + 10) = .ok (.athrow, 1))
    (hR : 5 < R.frames ∧ (rest.map fun v => v.category).sum + 82 ≤ R.locals ∧ 1 ≤ R.cells ∧ 6 ≤ R.slots) : W p l e R s m args below meth c H locs 0 0 (vx_MQ below (fun _ _ _ _ => False) (XF D ct N ad E ce') args s 1 6 (fA N ad)) (F0 m pc ls rest) := by
  obtain ⟨sa, hsa⟩ := hE.2.2.1 _ hs
  exact vx_throwSW hx hb hlt hown hfit (by decide) (htg _ (xb hcl.1 hg1)) (htg _ (xb hcl.2 hg2)) hsa (fx_hat htg hE hm hn gW_ot) ho hE.1 hE.2.1 hS (hls.trans hml.symm) d0 d3 d4 d7 d10 (fun x hx1 => absurd hx1 (fun h => htb x h)) hR.1 (by have := hR.2.1; simpa using this) (by have := hR.2.2.1; omega) (by have := hR.2.2.2; omega) hlocks
    (fun t hA hz hk => ⟨rfl, ⟨fP.of (fun k hk1 => (hP.at hk1).kept (hk _ (hP.lt hk1))), va_K.moved hA hK, hI⟩, Nat.le_trans hS.1 hz, fun q hq hnq => (hk q (Nat.lt_of_lt_of_le hq hS.1)).trans (hS.2.1 q hq hnq)⟩) hS.2.2 (Nat.le_refl _) (Nat.le_refl _)
/-- a call of a method that throws E, of the caller's own world; not caught -/
theorem tW_blind {av : List Value} : FrameBlind (va_Pc av (fun U => fW D ct N ad ce U ∧ gE A0 U U.heap)) := fun a U g mk q => by
  obtain ⟨q0, ⟨qP, qK, qI⟩, qE⟩ := q
  exact ⟨q0, ⟨qP, va_K.moved (u := U) (U := U.calling g mk a) (Vm.Alike.refl U.vm) qK, qI⟩, gE.to (s := U) (U := U.calling g mk a) qE (State.WarmedH.refl U) (fun _ _ _ => rfl)⟩
end XC
