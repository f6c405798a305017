/-! WHAT IS MADE: rows of worlds that grow -/
theorem vl_snoc {N : Nat} {ad ad' : Nat → Nat} {ce : Nat → va_E} {q : Nat} {e : va_E} (h : ∀ k, k < N → ad' k = ad k) (hq : ad' N = q) : vl N ad ce ++ [(q, e)] = vl (N + 1) ad' (va_up ce N e) := by
  unfold vl
  rw [List.range_succ, List.map_append, List.map_singleton, hq]
  congr 1
  · refine List.map_congr_left (fun k hk => ?_)
    have hk' := List.mem_range.mp hk
    rw [h k hk', va_up_ne _ _ (show k ≠ N by omega)]
  · unfold va_up; rw [if_pos rfl]
/-- the names with one more -/
def adS (ad : Nat → Nat) (N q : Nat) : Nat → Nat := fun k => if k = N then q else ad k
theorem adS_lt {ad : Nat → Nat} {N q k : Nat} (h : k < N) : adS ad N q k = ad k := if_neg (by omega)
theorem adS_at {ad : Nat → Nat} {N q : Nat} : adS ad N q N = q := if_pos rfl
def kE (A : Nat → Prop) (U : State) (H : Heap) : Prop :=
  (∃ (t : Nat) (cell : Cell), va_Z RX5 "FIRST_VALUES" "[I" (.ref t) A U H ∧ H[t]? = some cell ∧ U.isArrayOf cell .int ∧ cell.vm ≠ .unknown ∧ U.vm.findClass "[I" = some cell.cls ∧ cell.slots = #[.int (nI 2), .int (nI 0), .int (nI 3)] ∧ ¬ A t) ∧ va_Nw (.fieldLinkNest RX2 27 RX5 "FIRST_VALUES" "[I" RX5) U ∧ va_Nw (.castable "[I" "java/lang/Cloneable") U ∧ va_AO RX4 U ∧ va_AO RX0 U ∧ va_AO RX2 U ∧ va_Nw (.methodLinkNest RX2 39 yX4_init RX5) U ∧ va_Nw (.methodLinkNest RX2 40 yX0_init RX5) U ∧ va_Nw (.methodLinkNest RX5 36 yX3_init RX5) U
theorem kE.to {A : Nat → Prop} {s U : State} {H0 H : Heap} (h : kE A s H0) (hW : s.WarmedH U.vm) (hq : ∀ a : Nat, a < H0.size → ¬ A a → H[a]? = H0[a]?) : kE A U H := by
  obtain ⟨⟨t, cell, h1, h2, h3, h4, h5, h6, h7⟩, h8, h9, h10, h11, h12, h13, h14, h15⟩ := h
  exact ⟨⟨t, cell, va_Z.moved hW.alike (h1.kept hq), (hq t (Array.getElem?_eq_some_iff.mp h2).1 h7).trans h2, State.isArrayOf_alike hW.alike h3, h4, by rw [hW.alike.findClass]; exact h5, h6, h7⟩, va_Nw.warmF hW h8, va_Nw.warmC hW h9, va_AO.moved hW.alike h10, va_AO.moved hW.alike h11, va_AO.moved hW.alike h12, va_Nw.warmM hW h13, va_Nw.warmM hW h14, va_Nw.warmM hW h15⟩
theorem kE.narrow {A B : Nat → Prop} {U : State} {H : Heap} (h : kE A U H) (hAB : ∀ q, B q → A q) : kE B U H := by
  obtain ⟨⟨t, cell, h1, h2, h3, h4, h5, h6, h7⟩, h8⟩ := h
  exact ⟨⟨t, cell, h1.narrow hAB, h2, h3, h4, h5, h6, fun z => h7 (hAB t z)⟩, h8⟩
section MKN
variable {p : Program} {l : Launch} {e : Env} {R : Room} {s : State} {m : MethodId} {args : Array Value} {below : List Frame} {meth : Method} {c : Code} {H : Heap} {locs : List Loc} {cells slots : Nat} {Q : State → Prop}
variable {cc : ByteArray} {pc : Nat} {ls : Array Slot} {rest : List Value} {D : va_G} {ct : Nat → ClassId} {N : Nat} {ad : Nat → Nat} {ce ce' : Nat → va_E} {A0 : Nat → Prop} {H0 : Heap}
theorem grown {q : Nat} {e1 : va_E} {H1 : Heap} (hP : va_P D vwCl (vl N ad ce ++ [(q, e1)]) H1) (hD : va_D A0 (vl N ad ce ++ [(q, e1)])) : fP D (N + 1) (adS ad N q) (va_up ce N e1) H1 ∧ fI (N + 1) (adS ad N q) ∧ ∀ k, k < N + 1 → A0 (adS ad N q k) := by
  rw [vl_snoc (ad' := adS ad N q) (fun k hk => adS_lt hk) adS_at] at hP hD
  exact ⟨hP, fun i j hi hj h => hD.1 i j _ _ (vl_get hi) (vl_get hj) h, fun k hk => hD.2 k _ (vl_get hk)⟩
theorem rn_new {own C : String} {T : u_T} {ci idx n : Nat} {fs : List Value} (hx : p.tables.exec = Jvm.exec) (hb : c.code = cc) (hown : s.vm.findClass own = some m.cls) (htg : ∀ w ∈ wB, w.before args s = true) (hK : va_K D vwCl (fTys ct) s) (hI : fI N ad) (hP : fP D N ad ce H) (hA0 : ∀ k, k < N → A0 (ad k)) (hS : va_S A0 H0 H locs) (hA : ∀ q, H0.size ≤ q → A0 q)
    (hc : vwCl[ci]? = some (C, T, n)) (hin : ∀ w ∈ u_ws C T n, w ∈ wB) (ty : Nat → FieldType) (hty : ∀ k, k < n → parseFieldDescriptor (T k).2.2.1 = some (ty k)) (hcl : Cond.classLink own idx C ∈ wB) (hinst : Cond.instantiable C n ∈ wB) (hini : Cond.initialized C ∈ wB) (hfs : ∀ j, j < n → defaultValue (ty j) = vp_V fs j) (hroom : cells + 1 ≤ R.cells ∧ slots + n ≤ R.slots) (hdg : decode cc pc = .ok (.new idx, 3))
    (kk : ∀ (q : Nat) (H1 : Heap), fP D (N + 1) (adS ad N q) (va_up ce N (.inr (ci, fs))) H1 → fI (N + 1) (adS ad N q) → (∀ k, k < N + 1 → A0 (adS ad N q k)) → va_S A0 H0 H1 locs → W p l e R s m args below meth c H1 locs (cells + 1) (slots + n) Q (F0 m (pc + 3) ls (.ref q :: rest))) : W p l e R s m args below meth c H locs cells slots Q (F0 m pc ls rest) := by
  refine va_new hx hb htg hin ty hty hown (htg _ hcl) (htg _ hinst) (htg _ hini) hK hP (fD hI hA0) hS hA hc hfs hroom.1 hroom.2 hdg (fun q H1 h1 h2 h3 => ?_)
  obtain ⟨g1, g2, g3⟩ := grown h1 h2
  exact kk q H1 g1 g2 g3 h3
theorem ct_eq {cA : ClassId} {k0 : Nat} {ty : FieldType} (hK : va_K D vwCl (fTys ct) s) (hk : (fTys ct)[k0]? = some (ct k0, ty)) (hK2 : va_K D vwCl (fTys ct ++ [(cA, ty)]) s) : cA = ct k0 := by
  have h1 : va_RA s (ct k0) ty := (hK.2 k0 _ hk).2
  have h2 : va_RA s cA ty := (hK2.2 (fTys ct).length (cA, ty) (by rw [List.getElem?_append_right (Nat.le_refl _), Nat.sub_self]; rfl)).2
  cases ty <;> first | exact Option.some.inj (Eq.trans (Eq.symm h2) h1) | (obtain ⟨_, _, _, _, _, e1⟩ := h1; obtain ⟨_, _, _, _, _, e2⟩ := h2; exact Option.some.inj (Eq.trans (Eq.symm e2) e1))
theorem rn_newa {atype : ArrayType} {ty : FieldType} {k0 n : Nat} {a0 : vp_A} (hx : p.tables.exec = Jvm.exec) (hb : c.code = cc) (htg : ∀ w ∈ wB, w.before args s = true) (hK : va_K D vwCl (fTys ct) s) (hI : fI N ad) (hP : fP D N ad ce H) (hA0 : ∀ k, k < N → A0 (ad k)) (hS : va_S A0 H0 H locs) (hA : ∀ q, H0.size ≤ q → A0 q)
    (harr : Cond.arrayClass (newarray.typeOf atype) ∈ wB) (hty : newarray.typeOf atype = ty) (hk : (fTys ct)[k0]? = some (ct k0, ty)) (ha : ∀ cA : ClassId, vp_cell cA a0 = arrV cA n (fun _ => defaultValue ty)) (hn : n < 1000) (hbytes : n * componentBytes ty ≤ 536870912) (hroom : cells + 1 ≤ R.cells ∧ slots + n ≤ R.slots) (hdg : decode cc pc = .ok (.newarray atype, 2))
    (kk : ∀ (q : Nat) (H1 : Heap), fP D (N + 1) (adS ad N q) (va_up ce N (.inl (ct k0, a0))) H1 → fI (N + 1) (adS ad N q) → (∀ k, k < N + 1 → A0 (adS ad N q k)) → va_S A0 H0 H1 locs → W p l e R s m args below meth c H1 locs (cells + 1) (slots + n) Q (F0 m (pc + 2) ls (.ref q :: rest))) : W p l e R s m args below meth c H locs cells slots Q (F0 m pc ls (.int (nI n) :: rest)) := by
  refine va_newa hx hb (htg _ harr) hty hK hP (fD hI hA0) hS hA ha (nI_pos (by omega)) (nI_clamp (by omega)) hbytes hroom.1 hroom.2 hdg (fun q cA H1 hK2 h1 h2 h3 => ?_)
  obtain rfl := ct_eq hK hk hK2
  obtain ⟨g1, g2, g3⟩ := grown h1 h2
  exact kk q H1 g1 g2 g3 h3
theorem rn_newq {own C : String} {idx k0 n : Nat} (hx : p.tables.exec = Jvm.exec) (hb : c.code = cc) (hown : s.vm.findClass own = some m.cls) (htg : ∀ w ∈ wB, w.before args s = true) (hK : va_K D vwCl (fTys ct) s) (hI : fI N ad) (hP : fP D N ad ce H) (hA0 : ∀ k, k < N → A0 (ad k)) (hS : va_S A0 H0 H locs) (hA : ∀ q, H0.size ≤ q → A0 q)
    (hcl : Cond.classLink own idx C ∈ wB) (hao : va_AO C s) (hk : (fTys ct)[k0]? = some (ct k0, .object C)) (hn : n < 1000) (hroom : cells + 1 ≤ R.cells ∧ slots + n ≤ R.slots) (hdg : decode cc pc = .ok (.anewarray idx, 3))
    (kk : ∀ (q : Nat) (H1 : Heap), fP D (N + 1) (adS ad N q) (va_up ce N (.inl (ct k0, n, .inr (.inr (.inr (.inr (fun _ => none))))))) H1 → fI (N + 1) (adS ad N q) → (∀ k, k < N + 1 → A0 (adS ad N q k)) → va_S A0 H0 H1 locs → W p l e R s m args below meth c H1 locs (cells + 1) (slots + n) Q (F0 m (pc + 3) ls (.ref q :: rest))) : W p l e R s m args below meth c H locs cells slots Q (F0 m pc ls (.int (nI n) :: rest)) := by
  refine va_newq hx hb hown (htg _ hcl) hao hK hP (fD hI hA0) hS hA (nI_pos (by omega)) (nI_clamp (by omega)) (by omega) hroom.1 hroom.2 hdg (fun q cA H1 hK2 h1 h2 h3 => ?_)
  obtain rfl := ct_eq hK hk hK2
  obtain ⟨g1, g2, g3⟩ := grown h1 h2
  exact kk q H1 g1 g2 g3 h3
theorem rn_putF {k ci j n idx : Nat} {fs : List Value} {C own ref : String} {T : u_T} {v : Value} {ty : FieldType} (hx : p.tables.exec = Jvm.exec) (hb : c.code = cc) (hown : s.vm.findClass own = some m.cls) (htg : ∀ w ∈ wB, w.before args s = true) (hK : va_K D vwCl (fTys ct) s) (hI : fI N ad) (hP : fP D N ad ce H) (hS : va_S A0 H0 H locs) (hA : ∀ i, i < N → A0 (ad i)) (hin2 : meth.name = "<init>") (hk : k < N) (hce : ce k = .inr (ci, fs)) (hc : vwCl[ci]? = some (C, T, n)) (hin : ∀ w ∈ u_ws C T n, w ∈ wB) (ty0 : Nat → FieldType) (hty : ∀ k, k < n → parseFieldDescriptor (T k).2.2.1 = some (ty0 k)) (hnm : ∀ a, a < n → ∀ b, b < n → a ≠ b → (T a).2.1 ≠ (T b).2.1) (hj : j < n) (hlink : Cond.fieldLink own idx ref (T j).2.1 (T j).2.2.1 ∈ wB) (hsame : (T j).1 = ref) (hdecl : (T j).1 = own) (hfin : (T j).2.2.2 = true) (hd : ty0 j = ty) (hn : narrow ty v = v) (hfit : fits ty v = true) (hl : j < fs.length) (hdg : decode cc pc = .ok (.putfield idx, 3))
    (kk : ∀ (H1 : Heap) (locs1 : List Loc), fP D N ad (va_up ce k (.inr (ci, fs.set j v))) H1 → va_S A0 H0 H1 locs1 → W p l e R s m args below meth c H1 locs1 cells slots Q (F0 m (pc + 3) ls rest)) : W p l e R s m args below meth c H locs cells slots Q (F0 m pc ls (v :: .ref (ad k) :: rest)) := by
  subst hd
  refine va_putF hx hb htg hin ty0 hty hnm hown hK hP (fD hI hA) hS k (by rw [← hce]; exact vl_get hk) hc j hj (htg _ hlink) (fun x h => by rw [← hsame]; exact h) hfin hin2 hdecl (hty j hj) hn hfit hl hdg (fun H1 l1 h1 _ h3 => kk H1 l1 ?_ h3)
  rw [vl_set] at h1
  exact h1
theorem rn_astq {k i len t0 kv ci : Nat} {C : String} {f : Nat → Option Nat} {vs : List Value} {T : u_T} {n : Nat} (hx : p.tables.exec = Jvm.exec) (hb : c.code = cc) (hK : va_K D vwCl (fTys ct) s) (hI : fI N ad) (hP : fP D N ad ce H) (hS : va_S A0 H0 H locs) (hA : ∀ i, i < N → A0 (ad i)) (hk : k < N) (hce : ce k = .inl (ct t0, len, .inr (.inr (.inr (.inr f))))) (ht : (fTys ct)[t0]? = some (ct t0, .object C)) (hkv : kv < N) (hcv : ce kv = .inr (ci, vs)) (hc : vwCl[ci]? = some (C, T, n)) (hi : i < len) (hlen : len < 2147483648) (hdg : decode cc pc = .ok (.aastore, 1))
    (kk : ∀ (H1 : Heap) (locs1 : List Loc), fP D N ad (va_up ce k (.inl (ct t0, len, .inr (.inr (.inr (.inr (va_up f i (some (ad kv))))))))) H1 → va_S A0 H0 H1 locs1 → W p l e R s m args below meth c H1 locs1 cells slots Q (F0 m (pc + 1) ls rest)) : W p l e R s m args below meth c H locs cells slots Q (F0 m pc ls (.ref (ad kv) :: .int (nI i) :: .ref (ad k) :: rest)) := by
  refine va_astq hx hb hK hP (fD hI hA) hS k t0 kv ci (r := (C, T, n)) (by rw [← hce]; exact vl_get hk) ht (by rw [← hcv]; exact vl_get hkv) hc (vp_in_nI hi hlen) hdg (fun H1 l1 h1 _ h3 => kk H1 l1 ?_ h3)
  rw [nI_clamp (Nat.lt_trans hi hlen), vl_set] at h1
  exact h1
/-- which cells a constructor may change: its object's, and what it makes -/
def nZ (q sz : Nat) : Nat → Prop := fun x => x = q ∨ sz ≤ x
def cnQ (D : va_G) (ct : Nat → ClassId) (q sz n : Nat) (ce' : (Nat → Nat) → Nat → va_E) : Array Value → State → Outcome → State → Prop := fun _ st oc t => (oc = .returned none ∧ ∃ ad : Nat → Nat, ad 0 = q ∧ (∀ k, 1 ≤ k → k < n → sz ≤ ad k) ∧ fI n ad ∧ fP D n ad (ce' ad) t.heap) ∧ va_F (nZ q sz) st t
def cnP (D : va_G) (ct : Nat → ClassId) (q sz ci : Nat) (fs : List Value) (U : State) : Prop := U.heap.size = sz ∧ q < sz ∧ fP D 1 (fun _ => q) (fun _ => .inr (ci, fs)) U.heap ∧ va_K D vwCl (fTys ct) U ∧ kE (nZ q sz) U U.heap
/-- a constructor: from a new object, the world of n names ce' -/
def CMet (l : Launch) (y : MethodName) (cc : ByteArray) (maxL : Nat) (fr lo mc ms : Nat) (D : va_G) (ct : Nat → ClassId) (q sz ci : Nat) (fs : List Value) (n : Nat) (ce' : (Nat → Nat) → Nat → va_E) : Prop :=
  Met l y (Cond.code y cc maxL none :: wB) ({ frames := fr, cells := mc, slots := ms, locals := lo }) (va_Pc [.ref q] (cnP D ct q sz ci fs)) (cnQ D ct q sz n ce') mc ms (nZ q sz)
theorem CMet.of {y : MethodName} {maxL fr lo mc ms q sz ci n : Nat} {fs : List Value} {ce' : (Nat → Nat) → Nat → va_E} (hy : plainName y.cls = true) (hyi : y.name = "<init>") (hlen : 1 ≤ maxL)
    (body : ∀ (p : Program) (e : Env) (s : State) (m : MethodId) (args : Array Value) (below : List Frame) (meth : Method) (c : Code) (ls : Array Slot), p.tables.exec = Jvm.exec → c.code = cc → meth.sig.returnType = none → c.maxLocals = maxL → s.vm.findClass y.cls = some m.cls → meth.locks = false → meth.name = "<init>" → (∀ w ∈ wB, w.before args s = true) → va_K D vwCl (fTys ct) s → s.heap.size = sz → q < sz → fP D 1 (fun _ => q) (fun _ => .inr (ci, fs)) s.heap → va_S (nZ q sz) s.heap s.heap [] → lv_has ls maxL [(0, .ref q)] → kE (nZ q sz) s s.heap →
      W p l e ({ frames := fr, cells := mc, slots := ms, locals := lo }) s m args below meth c s.heap [] 0 0 (MQ below (cnQ D ct q sz n ce') args s mc ms (nZ q sz)) (F0 m 0 ls [])) : CMet l y cc maxL fr lo mc ms D ct q sz ci fs n ce' := by
  refine Met.ofW (cc := cc) (maxL := maxL) (ret := none) hy rfl ?_
  intro p e s m args below meth c s₁ B hml hv
  obtain ⟨rfl, hsz, hq, hP, hK, hE⟩ := hv
  have hts := atoms_spec (ws := Cond.code y cc maxL none :: wB) B.pre
  have hl := lv_entry [.ref q] (n := maxL) hlen
  rw [lg_entry_eq]
  exact body p e s m _ below meth c _ B.exec B.bytes B.returns hml (findClass_of_methodNamed B.named) B.notSynchronized ((name_of_methodNamed B.named B.method).1.trans hyi) (fun w hw => hts w (List.mem_cons_of_mem _ hw)) hK hsz hq hP va_S.rf hl hE
theorem rn_ret {mc ms q sz n : Nat} {ce1 : (Nat → Nat) → Nat → va_E} (hx : p.tables.exec = Jvm.exec) (hb : c.code = cc) (hr : meth.sig.returnType = none) (hlocks : meth.locks = false) (hsz : s.heap.size = sz) (hq : ad 0 = q) (hI : fI n ad) (hA : ∀ k, k < n → nZ q sz (ad k)) (hS : va_S (nZ q sz) s.heap H locs) (hdg : decode cc pc = .ok (.return_, 1)) (hP : fP D n ad (ce1 ad) H) (hc : cells = mc) (hs : slots = ms) :
    W p l e R s m args below meth c H locs cells slots (MQ below (cnQ D ct q sz n ce1) args s mc ms (nZ q sz)) (F0 m pc ls []) := by
  subst hc; subst hs
  refine W.vret hx hb hr (fun t ht hW => ⟨⟨rfl, ad, hq, fun k h1 h2 => ?_, hI, by rw [ht]; exact hP⟩, hS.F ht⟩) hS.2.2 hdg hlocks
  rcases hA k h2 with h | h
  · have := hI k 0 h2 (by omega) (h.trans hq.symm); omega
  · exact h
end MKN
