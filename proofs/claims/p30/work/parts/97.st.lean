/-! THE CLAIM OUT OF ONE WALK OF THE LAW'S BODY. Your part is whole_start (and what it stands on); all else here is the same for every law, but numbers. -/
def R_law : String := "MarketSocketsLaw"
def lw_P (b : Addr) (xs : List Int32) (args : Array Value) (s : State) : Prop := args = #[.ref b] ∧ s.IntsAt b xs ∧ xs.length ≤ 260 ∧ (Jvm.Cond.and given_1 narrow_1).before args s = true
/-- what a walk over the start with the record d0 says of its end, said of the start itself -/
theorem lw_closed {s t : State} {o : Outcome} {d0 : Drawn} {L : List Loc} {k n : Nat} (hd0 : s.drawn.sameBut d0 lw_cs) (hv : ∃ v, o = .returned v) (hW : (s.setDrawn d0).WarmedH t.vm) (hs : (s.setDrawn d0).sameButNew ({ t with vm := s.vm } : State) L k n) : State.butDraws s t lw_cs (fun t1 => Framed s o t1 L k n) := by
  have h2 : t.drawn = d0 := congrArg State.drawn hs.1
  refine ⟨⟨hv, hW, State.sameButNew.setDrawn hs s.drawn⟩, ?_, by decide⟩
  rw [h2]
  exact hd0
def lw_Q (_ : Array Value) (s : State) (o : Outcome) (t : State) : Prop := o = .returned (some (.int 1)) ∧ State.butDraws s t lw_cs (fun t1 => Framed s o t1 [] 600104 7301314)
def lw_Z (below : List Frame) (a : Array Value) (s : State) : State → Prop := fun t => ∃ o, t.status = .running ∧ Ended t below o ∧ lw_Q a s o t
/-- the law's own end, with 1 on the stack, nothing written that was there before, its room as the claim has it; d0: the record of draws at this point (at the entry s.drawn: begin with 'refine W.base ?_' and 'have hd0 := Drawn.sameBut.refl s.drawn lw_cs') -/
theorem lw_ret {p : Program} {l : Launch} {e : Env} {s : State} {m : MethodId} {below : List Frame} {meth : Method} {c : Code} {b : Nat} {d0 : Drawn} (hd0 : s.drawn.sameBut d0 lw_cs) (hx : p.tables.exec = Jvm.exec) (hb : c.code = code) (hr : meth.sig.returnType = ret) (hlocks : meth.locks = false) {pc : Nat} {H : Heap} {ls : Array Slot} (hdg : decode code pc = .ok (.ireturn, 1)) : W p l e room_1 (s.setDrawn d0) m #[Value.ref b] below meth c H [] 600104 7301314 (lw_Z below #[Value.ref b] s) (F0 m pc ls [.int 1]) := by
  intro T hT X
  obtain ⟨fs, hret, hrun, hended, hW, hframe⟩ := X.leave (v := some (.int 1)) (hlocks := hlocks) (fun h => by rw [hr] at h; cases h)
  have hmeth' : T.vm.method? m = some meth := X.method'
  refine ⟨T.setFrames fs, ?_, .returned (some (.int 1)), hrun, hended, rfl, lw_closed hd0 ⟨_, rfl⟩ hW hframe⟩
  jvm_step X.here [X.here.top, hx, hb, hdg, hmeth', hr, ret, narrow_b1]
  (try refine ⟨rfl, ?_⟩); (try refine ⟨rfl, ?_⟩)
  first | (intro acts; rw [hret _ acts rfl rfl rfl]) | rw [hret _ _ rfl rfl rfl]
  exact Steps.refl _
/-- what holds at the law's entry: the machine, the code, the tables' words (any of lw_tbl by 'hts w (by decide +kernel)'), the script of L ints xs at the cell b, what the Statement gives of the start (any of its parts by flat_of_before) -/
def lw_At (p : Program) (s : State) (m : MethodId) (meth : Method) (c : Code) (b L : Nat) (xs : Nat → Int32) : Prop :=
  p.tables.exec = Jvm.exec ∧ c.code = code ∧ meth.sig.returnType = ret ∧ c.maxLocals = 16 ∧ s.vm.findClass R_law = some m.cls ∧ (∀ w ∈ lw_tbl, w.before #[Value.ref b] s = true) ∧ va_X b L xs s s.heap ∧ b < s.heap.size ∧ meth.locks = false ∧ (Jvm.Cond.and given_1 narrow_1).before #[Value.ref b] s = true
set_option maxRecDepth 100000 in
set_option maxHeartbeats 4000000 in
/-- from the entry, for every script of at most 260 ints, the law comes to its end with true -/
theorem whole_start {p : Program} {e : Env} {s : State} {m : MethodId} {below : List Frame} {meth : Method} {c : Code} (l : Launch) (hflags : l.flags = flags0) {b L : Nat} {xs : Nat → Int32} (hL : L ≤ 260) (C0 : lw_At p s m meth c b L xs) : W p l e room_1 s m #[Value.ref b] below meth c s.heap [] 0 0 (lw_Z below #[Value.ref b] s) (entryFrame m ([Value.ref b] : List Value).toArray 16) := by
  obtain ⟨hx, hb, hr, hml, hown, hts, hX, hbl, hlocks, hgv⟩ := C0
  have hown : s.vm.findClass RL = some m.cls := hown
  have htg : ∀ w ∈ wB, w.before #[Value.ref b] s = true := fun w h => hts w (wB_tbl h)
  obtain ⟨D, ct, hK⟩ := entry_K hts
  obtain ⟨hgE, hkE⟩ := entry_E hts hgv
  have hA : ∀ q : Nat, s.heap.size ≤ q → lA s q := fun _ h => h
  have hl := lv_entry ([.ref b]) (n := 16) (Nat.le_of_ble_eq_true rfl)
  rw [lg_entry_eq]
  generalize (lg_sl ([.ref b]) ++ List.replicate (16 - (lg_sl ([.ref b])).length) Slot.unset).toArray = ls at hl ⊢
  have hl : lv_has ls 16 [(0, .ref b)] := hl
  have hP0 : fP D 0 (fun _ => 0) (fun _ => .inr (0, [])) s.heap := fP.of fun k hk => absurd hk (by omega)
  have hI0 : fI 0 (fun _ => 0) := fun i j hi => absurd hi (by omega)
  refine rn_new (ci := 5) (fs := [.null, .null, .null, .null, .null, .null]) hx hb hown htg hK hI0 hP0 (fun k hk => absurd hk (by omega)) va_S.rf hA rfl inB_X5 tyX5 tyX5_ok (xb (by decide +kernel) (by decide +kernel)) (xb (by decide +kernel) (by decide +kernel)) (xb (by decide +kernel) (by decide +kernel)) (fun j hj => by rcases j with _ | _ | _ | _ | _ | _ | j <;> first | rfl | omega) ⟨Nat.le_of_ble_eq_true rfl, Nat.le_of_ble_eq_true rfl⟩ dL_law_0 (fun q1 H hP hI hA0 hS => ?_)
  refine lv_dup hx hb dL_law_3 rfl ?_
  obtain ⟨ad1, e1⟩ : ∃ z9, adS (fun _ => 0) 0 q1 = z9 := ⟨_, rfl⟩
  have eq1 : q1 = ad1 0 := by rw [← e1]; rfl
  rw [e1] at hP hI hA0
  rw [eq1]
  refine rn_init (N0 := 0) (n := 198) (ce1 := fun ad => csc ct ad (fun _ => iM) (fun _ => 0) (nI 0) (nI 0) (fun _ => 0) (fun _ => 0) (nI 0) (nI 0) 0) hx hb hml hl.1 hown htg hK hI hP hA0 hS hA hkE (by decide) (by unfold va_up; exact if_pos rfl) (mX5_init l D ct (ad1 0) H.size) (xb (by decide +kernel) (by decide +kernel)) (xb (by decide +kernel) (by decide +kernel)) (xb (by decide +kernel) (by decide +kernel)) (xb (by decide +kernel) (by decide +kernel)) rfl ⟨by decide, by decide, by decide +kernel⟩ ⟨Nat.le_of_ble_eq_true rfl, Nat.le_of_ble_eq_true rfl⟩ (Nat.le_of_ble_eq_true rfl) dL_law_4 ⟨Nat.le_of_ble_eq_true rfl, Nat.le_of_ble_eq_true rfl⟩ (fun ad2 H locs h12 hP hI hA0 hS => ?_)
  rw [← h12 0 (by omega)]
  refine lv_astore_n (lv' := [(1, .ref (ad2 0)), (0, .ref b)]) hx hb dL_law_7 rfl hl (by decide) rfl (fun ls hl => ?_)
  have hP : fP D 198 ad2 (pcw (oS ct ad2 (fun _ => iM) 0 0) (lw0 ct (bF 0) (fun _ => 0))) H := fP.of fun i hi => by
    have h1 := hP.at (k := i) (by omega)
    unfold ceJ at h1
    rw [if_neg (Nat.not_lt_zero i)] at h1
    rw [pcl i hi]
    exact csc_at (fun j hj => by show ad2 j = ad2 (0 + j); rw [Nat.zero_add]) hi h1
  have hI : fI 198 ad2 := fun i j hi hj => hI i j (by omega) (by omega)
  have hA0 : ∀ k, k < 198 → lA s (ad2 k) := fun k hk => hA0 k (by omega)
  refine lv_bipush (v := nI 60) hx hb dL_law_8 (by decide) ?_
  refine rn_newa (atype := .int) (ty := .int) (k0 := 0) (n := 60) (a0 := (60, .inl (fun _ => 0))) hx hb htg hK hI hP hA0 hS hA ac_i rfl rfl (fun _ => rfl) (by decide) (Nat.le_of_ble_eq_true rfl) ⟨Nat.le_of_ble_eq_true rfl, Nat.le_of_ble_eq_true rfl⟩ dL_law_10 (fun q3 H hP hI hA0 hS => ?_)
  obtain ⟨ad3, e3⟩ : ∃ z9, adS ad2 198 q3 = z9 := ⟨_, rfl⟩
  have h3 : ∀ k, k < 198 → ad3 k = ad2 k := fun k hk => by rw [← e3]; exact adS_lt hk
  have g3 : q3 = ad3 198 := by rw [← e3]; exact adS_at.symm
  rw [e3] at hP hI hA0
  have hP : fP D 199 ad3 (pcw (oS ct ad3 (fun _ => iM) 0 0) (lw0 ct (bF 0) (fun _ => 0))) H := st_snoc (j := 0) (fun k hk => h3 k (by omega)) hP rfl
  have hI : fI 199 ad3 := hI
  have hA0 : ∀ k, k < 199 → lA s (ad3 k) := hA0
  rw [← h3 0 (by omega)] at hl
  rw [g3]
  refine lv_astore_n (lv' := [(2, .ref (ad3 198)), (1, .ref (ad3 0)), (0, .ref b)]) hx hb dL_law_12 rfl hl (by decide) rfl (fun ls hl => ?_)
  refine lv_bipush (v := nI 20) hx hb dL_law_13 (by decide) ?_
  refine rn_newa (atype := .int) (ty := .int) (k0 := 0) (n := 20) (a0 := (20, .inl (fun _ => 0))) hx hb htg hK hI hP hA0 hS hA ac_i rfl rfl (fun _ => rfl) (by decide) (Nat.le_of_ble_eq_true rfl) ⟨Nat.le_of_ble_eq_true rfl, Nat.le_of_ble_eq_true rfl⟩ dL_law_15 (fun q4 H hP hI hA0 hS => ?_)
  obtain ⟨ad4, e4⟩ : ∃ z9, adS ad3 199 q4 = z9 := ⟨_, rfl⟩
  have h4 : ∀ k, k < 199 → ad4 k = ad3 k := fun k hk => by rw [← e4]; exact adS_lt hk
  have g4 : q4 = ad4 199 := by rw [← e4]; exact adS_at.symm
  rw [e4] at hP hI hA0
  have hP : fP D 200 ad4 (pcw (oS ct ad4 (fun _ => iM) 0 0) (lw0 ct (bF 0) (fun _ => 0))) H := st_snoc (j := 1) (fun k hk => h4 k (by omega)) hP rfl
  have hI : fI 200 ad4 := hI
  have hA0 : ∀ k, k < 200 → lA s (ad4 k) := hA0
  rw [← h4 0 (by omega), ← h4 198 (by omega)] at hl
  rw [g4]
  refine lv_astore_n (lv' := [(3, .ref (ad4 199)), (2, .ref (ad4 198)), (1, .ref (ad4 0)), (0, .ref b)]) hx hb dL_law_17 rfl hl (by decide) rfl (fun ls hl => ?_)
  refine lv_bipush (v := nI 20) hx hb dL_law_18 (by decide) ?_
  refine rn_newa (atype := .int) (ty := .int) (k0 := 0) (n := 20) (a0 := (20, .inl (fun _ => 0))) hx hb htg hK hI hP hA0 hS hA ac_i rfl rfl (fun _ => rfl) (by decide) (Nat.le_of_ble_eq_true rfl) ⟨Nat.le_of_ble_eq_true rfl, Nat.le_of_ble_eq_true rfl⟩ dL_law_20 (fun q5 H hP hI hA0 hS => ?_)
  obtain ⟨ad5, e5⟩ : ∃ z9, adS ad4 200 q5 = z9 := ⟨_, rfl⟩
  have h5 : ∀ k, k < 200 → ad5 k = ad4 k := fun k hk => by rw [← e5]; exact adS_lt hk
  have g5 : q5 = ad5 200 := by rw [← e5]; exact adS_at.symm
  rw [e5] at hP hI hA0
  have hP : fP D 201 ad5 (pcw (oS ct ad5 (fun _ => iM) 0 0) (lw0 ct (bF 0) (fun _ => 0))) H := st_snoc (j := 2) (fun k hk => h5 k (by omega)) hP (congrArg (fun B => (Sum.inl (ct 0, 20, .inl B) : va_E)) (funext fun j => (if_neg (by omega)).symm))
  have hI : fI 201 ad5 := hI
  have hA0 : ∀ k, k < 201 → lA s (ad5 k) := hA0
  rw [← h5 0 (by omega), ← h5 198 (by omega), ← h5 199 (by omega)] at hl
  rw [g5]
  refine lv_astore (lv' := [(4, .ref (ad5 200)), (3, .ref (ad5 199)), (2, .ref (ad5 198)), (1, .ref (ad5 0)), (0, .ref b)]) hx hb dL_law_22 hl (by decide) rfl (fun ls hl => ?_)
  refine lv_iconst (v := nI 1) hx hb dL_law_24 (by decide) ?_
  refine rn_newa (atype := .int) (ty := .int) (k0 := 0) (n := 1) (a0 := (1, .inl (fun _ => 0))) hx hb htg hK hI hP hA0 hS hA ac_i rfl rfl (fun _ => rfl) (by decide) (Nat.le_of_ble_eq_true rfl) ⟨Nat.le_of_ble_eq_true rfl, Nat.le_of_ble_eq_true rfl⟩ dL_law_25 (fun q6 H hP hI hA0 hS => ?_)
  obtain ⟨ad6, e6⟩ : ∃ z9, adS ad5 201 q6 = z9 := ⟨_, rfl⟩
  have h6 : ∀ k, k < 201 → ad6 k = ad5 k := fun k hk => by rw [← e6]; exact adS_lt hk
  have g6 : q6 = ad6 201 := by rw [← e6]; exact adS_at.symm
  rw [e6] at hP hI hA0
  have hP : fP D 202 ad6 (pcw (oS ct ad6 (fun _ => iM) 0 0) (lw0 ct (bF 0) (fun _ => 0))) H := st_snoc (j := 3) (fun k hk => h6 k (by omega)) hP rfl
  have hI : fI 202 ad6 := hI
  have hA0 : ∀ k, k < 202 → lA s (ad6 k) := hA0
  rw [← h6 0 (by omega), ← h6 198 (by omega), ← h6 199 (by omega), ← h6 200 (by omega)] at hl
  rw [g6]
  refine lv_astore (lv' := [(5, .ref (ad6 201)), (4, .ref (ad6 200)), (3, .ref (ad6 199)), (2, .ref (ad6 198)), (1, .ref (ad6 0)), (0, .ref b)]) hx hb dL_law_27 hl (by decide) rfl (fun ls hl => ?_)
  refine lv_bipush (v := nI 7) hx hb dL_law_29 (by decide) ?_
  refine rn_newa (atype := .int) (ty := .int) (k0 := 0) (n := 7) (a0 := (7, .inl (fun _ => 0))) hx hb htg hK hI hP hA0 hS hA ac_i rfl rfl (fun _ => rfl) (by decide) (Nat.le_of_ble_eq_true rfl) ⟨Nat.le_of_ble_eq_true rfl, Nat.le_of_ble_eq_true rfl⟩ dL_law_31 (fun q7 H hP hI hA0 hS => ?_)
  obtain ⟨ad7, e7⟩ : ∃ z9, adS ad6 202 q7 = z9 := ⟨_, rfl⟩
  have h7 : ∀ k, k < 202 → ad7 k = ad6 k := fun k hk => by rw [← e7]; exact adS_lt hk
  have g7 : q7 = ad7 202 := by rw [← e7]; exact adS_at.symm
  rw [e7] at hP hI hA0
  have hP : fP D 203 ad7 (pcw (oS ct ad7 (fun _ => iM) 0 0) (lw0 ct (bF 0) (fun _ => 0))) H := st_snoc (j := 4) (fun k hk => h7 k (by omega)) hP rfl
  have hI : fI 203 ad7 := hI
  have hA0 : ∀ k, k < 203 → lA s (ad7 k) := hA0
  rw [← h7 0 (by omega), ← h7 198 (by omega), ← h7 199 (by omega), ← h7 200 (by omega), ← h7 201 (by omega)] at hl
  rw [g7]
  refine lv_astore (lv' := [(6, .ref (ad7 202)), (5, .ref (ad7 201)), (4, .ref (ad7 200)), (3, .ref (ad7 199)), (2, .ref (ad7 198)), (1, .ref (ad7 0)), (0, .ref b)]) hx hb dL_law_33 hl (by decide) rfl (fun ls hl => ?_)
  refine lv_aload hx hb dL_law_35 (lv_at hl 0 rfl) ?_
  refine lv_iconst (v := nI 0) hx hb dL_law_37 (by decide) ?_
  refine lv_iconst (v := nI 2) hx hb dL_law_38 (by decide) ?_
  refine fr_iast (k := 202) (f := fun _ => 0) (i := 0) (len := 7) hx hb hK hI hP hS hA0 (by decide) rfl (by omega) (by decide) dL_law_39 (pcw5_he (k := 4) (by decide) (lw0_T (B := bF 0) rfl)) (fun H locs hP hS => ?_)
  refine lv_aload hx hb dL_law_40 (lv_at hl 0 rfl) ?_
  refine lv_iconst (v := nI 2) hx hb dL_law_42 (by decide) ?_
  refine lv_iconst (v := nI 3) hx hb dL_law_43 (by decide) ?_
  refine fr_iast (k := 202) (f := upd (fun _ => 0) 0 (nI 2)) (i := 2) (len := 7) hx hb hK hI hP hS hA0 (by decide) rfl (by omega) (by decide) dL_law_44 (pcw5_he (k := 4) (by decide) (lw0_T (B := bF 0) (T' := tF) rfl)) (fun H locs hP hS => ?_)
  refine lv_iconst (v := nI 0) hx hb dL_law_45 (by decide) ?_
  refine lv_istore (lv' := [(7, .int (nI 0)), (6, .ref (ad7 202)), (5, .ref (ad7 201)), (4, .ref (ad7 200)), (3, .ref (ad7 199)), (2, .ref (ad7 198)), (1, .ref (ad7 0)), (0, .ref b)]) hx hb dL_law_46 hl (by decide) rfl (fun ls hl => ?_)
  refine st_fill hx hb hK hI hA0 (T := tF) (fun H locs ls hP hS hl => ?_) 5 0 (by omega) (by omega) H locs ls hP hS hl
  rw [lw0_eq] at hP
  refine lv_iconst (v := nI 0) hx hb dL_law_80 (by decide) ?_
  refine lv_istore (lv' := [(7, .int (nI 0)), (6, .ref (ad7 202)), (5, .ref (ad7 201)), (4, .ref (ad7 200)), (3, .ref (ad7 199)), (2, .ref (ad7 198)), (1, .ref (ad7 0)), (0, .ref b)]) hx hb dL_law_81 hl (by decide) rfl (fun ls hl => ?_)
  exact W_wide (by decide) (by decide) (law_loop hx hb hml hown htg hK hI hA0 hgE hX hbl hL (fun H locs ls k n hk hn hS => va_forget (fun q hq => hS.2.2 q hq) (W_wide hk hn (lw_ret (d0 := s.drawn) (Drawn.sameBut.refl s.drawn lw_cs) hx hb hr hlocks dL_law_1129))) 53 0 (by omega) (by omega) _ iZ 0 0 H locs ls st_LJ hP hS hl)
set_option maxHeartbeats 4000000 in
theorem lw_walk (l : Launch) (hflags : l.flags = flags0) (b : Addr) (xs : List Int32) : MetFree l x (headSpec (Jvm.Cond.code x code maxLocals ret :: tables_1) room_1) (lw_P b xs) (fun _ _ _ _ _ => True) lw_Q := by
  refine MetFree.of_bodyS (code := code) (maxLocals := maxLocals) (ret := ret) (by decide) ?_ ?_
  · intro args s m h hn
    obtain ⟨meth, c, h1, h2, h3, h4, h5, h6, -, -⟩ := Cond.code_spec hn (atoms_spec (ws := Jvm.Cond.code x code maxLocals ret :: tables_1) h _ List.mem_cons_self)
    exact ⟨meth, c, h1, h2, h3, h4, h5, h6⟩
  · intro p e s m args below meth c s₁ B hml0 hP _
    obtain ⟨rfl, hx, hbd, hgv⟩ := hP
    obtain ⟨scr, harrAt, hlist, hof, hsmall⟩ := hx
    obtain ⟨hcb, hkn, -, -⟩ := State.arrayAt?_spec harrAt
    have hown : s.vm.findClass R_law = some m.cls := findClass_of_methodNamed B.named
    have hts0 : ∀ c ∈ (Jvm.Cond.code x code maxLocals ret :: tables_1), c.before #[Value.ref b] s = true := atoms_spec (ws := Jvm.Cond.code x code maxLocals ret :: tables_1) B.pre
    have hts : ∀ w ∈ lw_tbl, w.before #[Value.ref b] s = true := k2_hts_sels lw_privs (fun w hw => hts0 w (List.mem_cons_of_mem _ hw)) lw_privs_ok
    have hml : c.maxLocals = 16 := B.maxLocals_eq (hts0 _ List.mem_cons_self)
    have X₀ : Stand p l e room_1 s m #[Value.ref b] below meth c s₁ [] 0 0 := Stand.of_body B
    have hh0 : s₁.heap = s.heap := by rw [B.state]; rfl
    have hsz : scr.slots.size = xs.length := by rw [← Array.length_toList, hlist, List.length_map]
    have hval : ∀ j : Nat, j < xs.length → scr.slots[j]? = some (.int (xs.getD j 0)) := fun j hj => by
      rw [← Array.getElem?_toList, hlist]
      simp [hj]
    have hbl : b < s.heap.size := (Array.getElem?_eq_some_iff.mp hcb).1
    have hX : va_X b xs.length (fun j => xs.getD j 0) s s.heap := ⟨scr, hcb, hof, hkn, hsz, hval⟩
    have K : W p l e room_1 s m #[Value.ref b] below meth c s₁.heap [] 0 0 (lw_Z below #[Value.ref b] s) (entryFrame m ([Value.ref b] : List Value).toArray 16) := by
      rw [hh0]
      exact whole_start l hflags hbd ⟨B.exec, B.bytes, B.returns, hml, hown, hts, hX, hbl, B.notSynchronized, hgv⟩
    obtain ⟨t, a1, o, b1, b2, b3⟩ := K s₁ rfl X₀
    exact ⟨t, o, a1, b1, b2, b3⟩
theorem lw_pre_spec {args : Array Value} {s : State} (h : (Jvm.Cond.and given_1 narrow_1).before args s = true) (hr : rest_1_c.before args s = true) : ∃ (b : Addr) (xs : List Int32), lw_P b xs args s := by
  have hs := flat_of_before _ h
  have hq := flat_of_before _ hr
  have hc : (Cond.count 1).before args s = true := hs _ (by decide +kernel)
  have harr : (Cond.arrayOf (.arg 0) .int).before args s = true := hs _ (by decide +kernel)
  have hle : (Cond.le (.length (.arg 0)) (.int 260)).before args s = true := hs _ (by decide +kernel)
  have hlen : (Cond.isInt (.length (.arg 0))).before args s = true := hq _ (by decide +kernel)
  have hall : (Cond.all (.arg 0) (.isInt (.elem (.arg 0) (.index 0)))).before args s = true := hq _ (by decide +kernel)
  obtain ⟨b, xs, hb, hx⟩ := State.ints_of_pre rfl harr hlen hall
  have hsm : xs.length < 2 ^ 31 := hx.choose_spec.2.2.2
  have hev : (Term.length (.arg 0)).eval args s none [] s = some (.int xs.length.toInt32) := hx.length_eval hb
  have hv := Cond.le_ints hev (show (Term.int 260).eval args s none [] s = some (.int 260) from rfl)
  have hd : xs.length.toInt32 ≤ 260 := by
    simpa [Cond.before, Cond.holds, hv] using hle
  have hN : xs.length ≤ 260 := (Int32.ofNat_le_ofNat hsm (by decide)).mp (show Int32.ofNat xs.length ≤ Int32.ofNat 260 from hd)
  exact ⟨b, xs, Cond.one_arg hc (show args[0]? = some (.ref b) from hb), hx, hN, h⟩
theorem lw_comes (l : Launch) (hflags : l.flags = flags0) : Comes l x (Jvm.Cond.code x code maxLocals ret :: tables_1) room_1 (fun tb e args s => Calls_1 tb e args s ∧ rest_1 tb e args s ∧ Pre_1 tb e args s)
    (fun _ _ args s o t => lw_Q args s o t) := by
  intro p e ha hc hk s m args below hf hfit hheap happ hpre
  obtain ⟨b, xs, hP⟩ := lw_pre_spec hpre.2.2 hpre.2.1
  obtain ⟨k, o, h1, h2, h3, hQ⟩ := lw_walk l hflags b xs p e ha hc hk s m args below hf ((Spec.applies_iff_loose hf).mp happ).1 hP trivial
  exact ⟨k, o, h1, h2, h3, hQ⟩
theorem lw_frame {s t : State} {o : Outcome} {args : Array Value} (h : State.butDraws s t lw_cs (fun t1 => Framed s o t1 [] 600104 7301314)) :
    State.butDraws s t [Jvm.Choice.named "NaN.bits"] (fun t1 => Framed s o t1 (fieldLocs frame_1_writes args s ++ arrayLocs frame_1_arrays args s ++ staticLocs frame_1_statics s) 600104 7301314) := h
theorem lw_limb (L : Cond) (hL : ∀ (args : Array Value) (s t : State), L.after args s (.returned (some (.int 1))) t = true) :
    ArmFor flags0 classFile x code maxLocals ret World_1 tables_1 room_1 Calls_1 rest_1 Pre_1
      (fun tb e a s o t => postC L tb e a s o t ∧ State.butDraws s t [Jvm.Choice.named "NaN.bits"] (fun t1 => Framed s o t1 (fieldLocs frame_1_writes a s ++ arrayLocs frame_1_arrays a s ++ staticLocs frame_1_statics s) 600104 7301314)) := by
  intro l hflags _ _ p e ha hc hk s m args below hf hfit hheap happ hpre
  obtain ⟨k, o, h1, h2, h3, rfl, hF⟩ := lw_comes l hflags p e ha hc hk s m args below hf hfit hheap happ hpre
  exact ⟨k, _, h1, h2, h3, hL args s _, lw_frame hF⟩
theorem i_vc : Claimed_1_1 ∧ Claimed_1_2 := ⟨lw_limb limb_1_1 (fun args s t => by simp [limb_1_1, Cond.after, Cond.holds, Cond.value]), lw_limb limb_1_2 (fun args s t => Cond.after_iff.mpr (by
  first | (rw [show limb_1_2 = Cond.eq .result (.int 1) from rfl, Cond.eq_ints (x := 1) (y := 1) rfl rfl]; simp; done) | (simp [limb_1_2, Cond.value, Term.eval]; done)))⟩
