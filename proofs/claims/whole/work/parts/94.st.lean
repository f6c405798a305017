/-! THE CLAIM OUT OF ONE WALK OF THE LAW'S BODY. Your part is whole_start (and what it stands on); all else here is the same for every law, but numbers. -/
def R_law : String := "MarketSocketsLaw"
def lw_P (b : Addr) (xs : List Int32) (args : Array Value) (s : State) : Prop := args = #[.ref b] ∧ s.IntsAt b xs ∧ xs.length ≤ 2560 ∧ (Jvm.Cond.and given_1 narrow_1).before args s = true
/-- what a walk over the start with the record d0 says of its end, said of the start itself -/
theorem lw_closed {s t : State} {o : Outcome} {d0 : Drawn} {L : List Loc} {k n : Nat} (hd0 : s.drawn.sameBut d0 lw_cs) (hv : ∃ v, o = .returned v) (hW : (s.setDrawn d0).WarmedH t.vm) (hs : (s.setDrawn d0).sameButNew ({ t with vm := s.vm } : State) L k n) : State.butDraws s t lw_cs (fun t1 => Framed s o t1 L k n) := by
  have h2 : t.drawn = d0 := congrArg State.drawn hs.1
  refine ⟨⟨hv, hW, State.sameButNew.setDrawn hs s.drawn⟩, ?_, by decide⟩
  rw [h2]
  exact hd0
def lw_Q (_ : Array Value) (s : State) (o : Outcome) (t : State) : Prop := o = .returned (some (.int 1)) ∧ State.butDraws s t lw_cs (fun t1 => Framed s o t1 [] 601024 7293034)
def lw_Z (below : List Frame) (a : Array Value) (s : State) : State → Prop := fun t => ∃ o, t.status = .running ∧ Ended t below o ∧ lw_Q a s o t
/-- the law's own end, with 1 on the stack, nothing written that was there before, its room as the claim has it; d0: the record of draws at this point (at the entry s.drawn: begin with 'refine W.base ?_' and 'have hd0 := Drawn.sameBut.refl s.drawn lw_cs') -/
theorem lw_ret {p : Program} {l : Launch} {e : Env} {s : State} {m : MethodId} {below : List Frame} {meth : Method} {c : Code} {b : Nat} {d0 : Drawn} (hd0 : s.drawn.sameBut d0 lw_cs) (hx : p.tables.exec = Jvm.exec) (hb : c.code = code) (hr : meth.sig.returnType = ret) (hlocks : meth.locks = false) {pc : Nat} {H : Heap} {ls : Array Slot} (hdg : decode code pc = .ok (.ireturn, 1)) : W p l e room_1 (s.setDrawn d0) m #[Value.ref b] below meth c H [] 601024 7293034 (lw_Z below #[Value.ref b] s) (F0 m pc ls [.int 1]) := by
  intro T hT X
  obtain ⟨fs, hret, hrun, hended, hW, hframe⟩ := X.leave (v := some (.int 1)) (hlocks := hlocks) (fun h => by rw [hr] at h; cases h)
  have hmeth' : T.vm.method? m = some meth := X.method'
  refine ⟨T.setFrames fs, ?_, .returned (some (.int 1)), hrun, hended, rfl, lw_closed hd0 ⟨_, rfl⟩ hW hframe⟩
  jvm_step X.here [X.here.top, hx, hb, hdg, hmeth', hr, ret, narrow_b1]
  (try refine ⟨rfl, ?_⟩); (try refine ⟨rfl, ?_⟩)
  first | (intro acts; rw [hret _ acts rfl rfl rfl]) | rw [hret _ _ rfl rfl rfl]
  exact Steps.refl _
/-- what holds at the law's entry: the machine, the code, the tables' words (any of lw_tbl by 'hts w (by decide +kernel)'), the script of L ints xs at the cell b, what the Statement gives of the start (any of its parts by flat_of_before) -/
def lw_At (p : Program) (s : State) (m : MethodId) (meth : Method) (c : Code) (b L : Nat) (xs : Nat → Int32) : Prop :=
  p.tables.exec = Jvm.exec ∧ c.code = code ∧ meth.sig.returnType = ret ∧ c.maxLocals = 9 ∧ s.vm.findClass R_law = some m.cls ∧ (∀ w ∈ lw_tbl, w.before #[Value.ref b] s = true) ∧ va_X b L xs s s.heap ∧ b < s.heap.size ∧ meth.locks = false ∧ (Jvm.Cond.and given_1 narrow_1).before #[Value.ref b] s = true
theorem csc_at {D : va_G} {ct : Nat → ClassId} {ad ad2 : Nat → Nat} {Ms : Nat → Nat → Int32} {kp B A : Nat → Int32} {nx sz ln a kd : Int32} {H : Heap} {i x : Nat} (h : ∀ j, j < 198 → ad2 j = ad j) (hi : i < 198) (hat : va_at D vwCl (x, csc ct ad Ms kp nx sz B A ln a kd i) H) : va_at D vwCl (x, csc ct ad2 Ms kp nx sz B A ln a kd i) H := by
  by_cases c8 : i < 8
  · rcases (show i = 0 ∨ i = 1 ∨ i = 2 ∨ i = 3 ∨ i = 4 ∨ i = 5 ∨ i = 6 ∨ i = 7 by omega) with rfl | rfl | rfl | rfl | rfl | rfl | rfl | rfl
    · have e : csc ct ad2 Ms kp nx sz B A ln a kd 0 = csc ct ad Ms kp nx sz B A ln a kd 0 := by
        show (Sum.inr (5, csF ad2) : va_E) = Sum.inr (5, csF ad)
        unfold csF
        rw [h 8 (by omega), h 27 (by omega), h 1 (by omega), h 2 (by omega), h 3 (by omega), h 5 (by omega)]
      rw [e]; exact hat
    · have e : H[x]? = some (vp_cell (ct 5) (2, .inr (.inr (.inr (.inr fun k => some (ad (8 + 19 * (2 + k)))))))) := hat
      show H[x]? = some (vp_cell (ct 5) (2, .inr (.inr (.inr (.inr fun k => some (ad2 (8 + 19 * (2 + k))))))))
      rw [e, vp_q]
      intro k hk
      rw [h _ (by omega)]
    · exact hat
    · have e : csc ct ad2 Ms kp nx sz B A ln a kd 3 = csc ct ad Ms kp nx sz B A ln a kd 3 := by
        show (Sum.inr (1, [Value.ref (ad2 4), Value.int nx, Value.int sz]) : va_E) = Sum.inr (1, [Value.ref (ad 4), Value.int nx, Value.int sz])
        rw [h 4 (by omega)]
      rw [e]; exact hat
    · have e : H[x]? = some (vp_cell (ct 5) (6, .inr (.inr (.inr (.inr fun k => some (ad (8 + 19 * (4 + k)))))))) := hat
      show H[x]? = some (vp_cell (ct 5) (6, .inr (.inr (.inr (.inr fun k => some (ad2 (8 + 19 * (4 + k))))))))
      rw [e, vp_q]
      intro k hk
      rw [h _ (by omega)]
    · have e : csc ct ad2 Ms kp nx sz B A ln a kd 5 = csc ct ad Ms kp nx sz B A ln a kd 5 := by
        show (Sum.inr (3, cpF ad2 ln a kd) : va_E) = Sum.inr (3, cpF ad ln a kd)
        unfold cpF
        rw [h 6 (by omega), h 7 (by omega)]
      rw [e]; exact hat
    · exact hat
    · exact hat
  · obtain ⟨r, z, hz, rfl⟩ : ∃ r z, z < 19 ∧ i = 8 + 19 * r + z := ⟨(i - 8) / 19, (i - 8) % 19, by omega, by omega⟩
    rw [csc_m (M := Ms r) hz rfl rfl] at hat ⊢
    rw [mkc_ad (ad := fun z => ad2 (8 + 19 * r + z)) (ad' := fun z => ad (8 + 19 * r + z)) (fun y hy => by show ad2 (8 + 19 * r + y) = ad (8 + 19 * r + y); rw [h _ (by omega)])]
    exact hat
set_option maxRecDepth 100000 in
set_option maxHeartbeats 4000000 in
/-- from the entry, for every script of at most 2560 ints, the law comes to its end with true -/
theorem whole_start {p : Program} {e : Env} {s : State} {m : MethodId} {below : List Frame} {meth : Method} {c : Code} (l : Launch) (hflags : l.flags = flags0) {b L : Nat} {xs : Nat → Int32} (hL : L ≤ 2560) (C0 : lw_At p s m meth c b L xs) : W p l e room_1 s m #[Value.ref b] below meth c s.heap [] 0 0 (lw_Z below #[Value.ref b] s) (entryFrame m ([Value.ref b] : List Value).toArray 9) := by
  obtain ⟨hx, hb, hr, hml, hown, hts, hX, hbl, hlocks, hgv⟩ := C0
  have hown : s.vm.findClass RL = some m.cls := hown
  have htg : ∀ w ∈ wB, w.before #[Value.ref b] s = true := fun w h => hts w (wB_tbl h)
  have hlt : l.stackTraces = false := by unfold Launch.stackTraces; rw [hflags]; decide +kernel
  obtain ⟨D, ct, hK⟩ := entry_K hts
  obtain ⟨hgE, hkE, hlE⟩ := entry_E hts hgv
  have hA : ∀ q : Nat, s.heap.size ≤ q → lA s q := fun _ h => h
  have hl := lv_entry ([.ref b]) (n := 9) (Nat.le_of_ble_eq_true rfl)
  rw [lg_entry_eq]
  generalize (lg_sl ([.ref b]) ++ List.replicate (9 - (lg_sl ([.ref b])).length) Slot.unset).toArray = ls at hl ⊢
  have hl : lv_has ls 9 [(0, .ref b)] := hl
  have hP0 : fP D 0 (fun _ => 0) (fun _ => .inr (0, [])) s.heap := fP.of fun k hk => absurd hk (by omega)
  have hI0 : fI 0 (fun _ => 0) := fun i j hi => absurd hi (by omega)
  refine rn_new (ci := 5) (fs := [.null, .null, .null, .null, .null, .null]) hx hb hown htg hK hI0 hP0 (fun k hk => absurd hk (by omega)) va_S.rf hA rfl inB_X5 tyX5 tyX5_ok kc_L_8 (xb (by decide +kernel) (by decide +kernel)) (xb (by decide +kernel) (by decide +kernel)) (fun j hj => by rcases j with _ | _ | _ | _ | _ | _ | j <;> first | rfl | omega) ⟨Nat.le_of_ble_eq_true rfl, Nat.le_of_ble_eq_true rfl⟩ dL_law_0 (fun q1 H hP hI hA0 hS => ?_)
  refine lv_dup hx hb dL_law_3 rfl ?_
  obtain ⟨ad1, e1⟩ : ∃ z9, adS (fun _ => 0) 0 q1 = z9 := ⟨_, rfl⟩
  have eq1 : q1 = ad1 0 := by rw [← e1]; rfl
  rw [e1] at hP hI hA0
  rw [eq1]
  refine rn_init (N0 := 0) (n := 198) (ce1 := fun ad => csc ct ad (fun _ => iM) (fun _ => 0) (nI 0) (nI 0) (fun _ => 0) (fun _ => 0) (nI 0) (nI 0) 0) hx hb hml hl.1 hown htg hK hI hP hA0 hS hA hkE (by decide) (by unfold va_up; exact if_pos rfl) (mX5_init l D ct (ad1 0) H.size) (xb (by decide +kernel) (by decide +kernel)) (xb (by decide +kernel) (by decide +kernel)) (xb (by decide +kernel) (by decide +kernel)) (xb (by decide +kernel) (by decide +kernel)) rfl ⟨by decide, by decide, by decide +kernel⟩ ⟨Nat.le_of_ble_eq_true rfl, Nat.le_of_ble_eq_true rfl⟩ (Nat.le_of_ble_eq_true rfl) dL_law_4 ⟨Nat.le_of_ble_eq_true rfl, Nat.le_of_ble_eq_true rfl⟩ (fun ad2 H locs h12 hP hI hA0 hS => ?_)
  rw [← h12 0 (by omega)]
  refine lv_astore_n (lv' := [(1, .ref (ad2 0)), (0, .ref b)]) hx hb dL_law_7 rfl hl (by decide) rfl (fun ls hl => ?_)
  refine rn_new (N := 198) (ci := 6) (fs := [.int 0, .null, .null, .int 0, .null, .null, .null, .null, .int 0, .null, .int 0, .int 0, .int 0, .long 0]) hx hb hown htg hK hI hP hA0 hS hA rfl inB_X6 tyX6 tyX6_ok kc_L_89 (xb (by decide +kernel) (by decide +kernel)) (xb (by decide +kernel) (by decide +kernel)) (fun j hj => by rcases j with _ | _ | _ | _ | _ | _ | _ | _ | _ | _ | _ | _ | _ | _ | j <;> first | rfl | omega) ⟨Nat.le_of_ble_eq_true rfl, Nat.le_of_ble_eq_true rfl⟩ dL_law_8 (fun q2 H hP hI hA0 hS => ?_)
  refine lv_dup hx hb dL_law_11 rfl ?_
  obtain ⟨ad3, e3⟩ : ∃ z9, adS ad2 198 q2 = z9 := ⟨_, rfl⟩
  have eq2 : q2 = ad3 198 := by rw [← e3]; exact adS_at.symm
  have h23 : ∀ k, k < 198 → ad3 k = ad2 k := fun k hk => by rw [← e3]; exact adS_lt hk
  rw [e3] at hP hI hA0
  rw [eq2]
  refine rn_init (N0 := 198) (n := 8) (ce1 := fun ad => mdc ct ad iZ (fun _ => 0) 0 (fun _ _ => 0)) hx hb hml hl.1 hown htg hK hI hP hA0 hS hA hkE (by decide) (by unfold va_up; exact if_pos rfl) (mX6_init l D ct (ad3 198) H.size) (xb (by decide +kernel) (by decide +kernel)) (xb (by decide +kernel) (by decide +kernel)) (xb (by decide +kernel) (by decide +kernel)) (xb (by decide +kernel) (by decide +kernel)) rfl ⟨by decide, by decide, by decide +kernel⟩ ⟨Nat.le_of_ble_eq_true rfl, Nat.le_of_ble_eq_true rfl⟩ (Nat.le_of_ble_eq_true rfl) dL_law_12 ⟨Nat.le_of_ble_eq_true rfl, Nat.le_of_ble_eq_true rfl⟩ (fun ad4 H locs h34 hP hI hA0 hS => ?_)
  rw [← h34 198 (by omega)]
  refine lv_astore_n (lv' := [(2, .ref (ad4 198)), (1, .ref (ad2 0)), (0, .ref b)]) hx hb dL_law_15 rfl hl (by decide) rfl (fun ls hl => ?_)
  refine lv_iconst (v := nI 1) hx hb dL_law_16 (by decide) ?_
  refine va_newa (ty := .long) (N' := 1) (a0 := (1, .inr (.inl (ouF 0)))) hx hb (htg _ (xb (by decide +kernel) (by decide +kernel))) rfl hK hP (fD hI hA0) hS hA (fun cA => ?_) (nI_pos (by omega)) (nI_clamp (by omega)) (by decide) (Nat.le_of_ble_eq_true rfl) (Nat.le_of_ble_eq_true rfl) dL_law_17 (fun q3 cL H hKL hP hD hS => ?_)
  · rw [vp_cell_l]
    congr 1
    funext j
    unfold ouF
    split <;> rfl
  obtain ⟨hP, hI, hA0⟩ := grown hP hD
  obtain ⟨ad5, e5⟩ : ∃ z9, adS ad4 206 q3 = z9 := ⟨_, rfl⟩
  have eq3 : q3 = ad5 206 := by rw [← e5]; exact adS_at.symm
  have h45 : ∀ k, k < 206 → ad5 k = ad4 k := fun k hk => by rw [← e5]; exact adS_lt hk
  rw [show (198 + 8 : Nat) = 206 from rfl, e5] at hP hI hA0
  obtain ⟨adF, eF⟩ : ∃ z9 : Nat → Nat, (fun i => if i < 198 then ad5 i else ad5 206) = z9 := ⟨_, rfl⟩
  have hFl : ∀ i, i < 198 → adF i = ad5 i := fun i hi => by rw [← eF]; exact if_pos hi
  have hFr : adF 198 = ad5 206 := by rw [← eF]; exact if_neg (by omega)
  obtain ⟨ad6, e6⟩ : ∃ z9 : Nat → Nat, (fun z => ad4 (198 + z)) = z9 := ⟨_, rfl⟩
  have h6 : ∀ j, j < 8 → ad6 j = ad5 (198 + j) := fun j hj => by rw [← e6]; exact (h45 _ (by omega)).symm
  have hF02 : ∀ i, i < 198 → adF i = ad2 i := fun i hi => by rw [hFl i hi, h45 i (by omega), h34 i (by omega), h23 i hi]
  rw [eq3, ← hFr]
  rw [show ad4 198 = ad6 0 by rw [← e6], ← hF02 0 (by omega)] at hl
  refine lv_astore_n (lv' := [(3, .ref (adF 198)), (2, .ref (ad6 0)), (1, .ref (adF 0)), (0, .ref b)]) hx hb dL_law_19 rfl hl (by decide) rfl (fun ls hl => ?_)
  refine lv_iconst (v := nI 0) hx hb dL_law_20 (by decide) ?_
  refine lv_istore (lv' := lb b adF ad6 (5 * 0)) hx hb dL_law_21 (lv_sub hl [3, 2, 1, 0] rfl) (by decide) rfl (fun ls hl => ?_)
  have hF : LF D ct cL adF ad6 s := by
    have hG : ∀ i, i < 199 → ∃ k, k < 207 ∧ adF i = ad5 k ∧ (i < 198 → k = i) ∧ (i = 198 → k = 206) := fun i hi => by
      by_cases c : i < 198
      · exact ⟨i, by omega, hFl i c, fun _ => rfl, fun q => by omega⟩
      · obtain rfl : i = 198 := by omega
        exact ⟨206, by omega, hFr, fun q => by omega, fun _ => rfl⟩
    refine ⟨hKL, fun i j hi hj q => ?_, fun i j hi hj q => ?_, fun i j hi hj q => ?_, fun i hi => ?_, fun j hj => ?_, hgE, hlE⟩
    · obtain ⟨k, k1, k2, k3, k4⟩ := hG i hi
      obtain ⟨k', k1', k2', k3', k4'⟩ := hG j hj
      have := hI k k' k1 k1' (k2.symm.trans (q.trans k2'))
      omega
    · have := hI (198 + i) (198 + j) (by omega) (by omega) ((h6 i hi).symm.trans (q.trans (h6 j hj)))
      omega
    · obtain ⟨k, k1, k2, k3, k4⟩ := hG i hi
      have := hI k (198 + j) k1 (by omega) (k2.symm.trans (q.trans (h6 j hj)))
      omega
    · obtain ⟨k, k1, k2, -, -⟩ := hG i hi
      rw [k2]; exact hA0 k k1
    · rw [h6 j hj]; exact hA0 _ (by omega)
  have hPF : LW D cL adF ad6 (csc ct adF (fun _ => iM) (fun _ => 0) (nI 0) (nI 0) (fun _ => 0) (fun _ => 0) (nI 0) (nI 0) 0) 0 (mdc ct ad6 iZ (fun _ => 0) 0 (fun _ _ => 0)) H := by
    refine ⟨fP.of fun i hi => ?_, fP.of fun j hj => ?_⟩
    · by_cases c : i < 198
      · have h1 := hP.at (k := i) (by omega)
        rw [va_up_ne _ _ (show i ≠ 206 by omega)] at h1
        unfold ceJ at h1
        rw [if_pos c, va_up_ne _ _ (show i ≠ 198 by omega), if_neg (Nat.not_lt_zero i), ← hFl i c] at h1
        rw [oc_l c]
        exact csc_at (fun j hj => by rw [Nat.zero_add]; exact hF02 j hj) c h1
      · obtain rfl : i = 198 := by omega
        have h1 := hP.at (k := 206) (by omega)
        rw [← hFr] at h1
        unfold va_up at h1
        rw [if_pos rfl] at h1
        rw [oc_r]
        exact h1
    · have h1 := hP.at (k := 198 + j) (by omega)
      rw [va_up_ne _ _ (show 198 + j ≠ 206 by omega), ← h6 j hj] at h1
      unfold ceJ at h1
      rw [if_neg (by omega), show 198 + j - 198 = j by omega] at h1
      rw [← e6] at h1 ⊢
      exact h1
  exact W_wide (by decide) (by decide) (law_loop hlt hx hb hml hown htg hF hX hbl hL (fun H locs ls hS => va_forget (fun q hq => hS.2.2 q hq) (lw_ret (d0 := s.drawn) (Drawn.sameBut.refl s.drawn lw_cs) hx hb hr hlocks dL_law_1656)) 512 0 (by omega) (by omega) H locs _ _ 0 ls CS_0 hPF hS hl)
set_option maxHeartbeats 4000000 in
theorem lw_walk (l : Launch) (hflags : l.flags = flags0) (b : Addr) (xs : List Int32) : MetFree l x (headSpec (Jvm.Cond.code x code maxLocals ret :: tables_1) room_1) (lw_P b xs) (fun _ _ _ _ _ => True) lw_Q := by
  refine MetFree.of_bodyS (code := code) (maxLocals := maxLocals) (ret := ret) (by decide) ?_ ?_
  · intro args s m h hn
    obtain ⟨meth, c, h1, h2, h3, h4, h5, h6, -, -⟩ := Cond.code_spec hn (atoms_spec (ws := Jvm.Cond.code x code maxLocals ret :: tables_1) h _ List.mem_cons_self)
    exact ⟨meth, c, h1, h2, h3, h4, h5, h6⟩
  · intro p e s m args below meth c s₁ B hml0 hP _
    obtain ⟨rfl, hx, hbd, hgv⟩ := hP
    obtain ⟨scr, harrAt, hlist, hof, hsmall⟩ := hx
    obtain ⟨hcb, hkn, -, -⟩ := State.arrayAt?_spec harrAt
    have hown : s.vm.findClass R_law = some m.cls := findClass_of_methodNamed B.named
    have hts0 : ∀ c ∈ (Jvm.Cond.code x code maxLocals ret :: tables_1), c.before #[Value.ref b] s = true := atoms_spec (ws := Jvm.Cond.code x code maxLocals ret :: tables_1) B.pre
    have hts : ∀ w ∈ lw_tbl, w.before #[Value.ref b] s = true := k2_hts_sels lw_privs (fun w hw => hts0 w (List.mem_cons_of_mem _ hw)) lw_privs_ok
    have hml : c.maxLocals = 9 := B.maxLocals_eq (hts0 _ List.mem_cons_self)
    have X₀ : Stand p l e room_1 s m #[Value.ref b] below meth c s₁ [] 0 0 := Stand.of_body B
    have hh0 : s₁.heap = s.heap := by rw [B.state]; rfl
    have hsz : scr.slots.size = xs.length := by rw [← Array.length_toList, hlist, List.length_map]
    have hval : ∀ j : Nat, j < xs.length → scr.slots[j]? = some (.int (xs.getD j 0)) := fun j hj => by
      rw [← Array.getElem?_toList, hlist]
      simp [hj]
    have hbl : b < s.heap.size := (Array.getElem?_eq_some_iff.mp hcb).1
    have hX : va_X b xs.length (fun j => xs.getD j 0) s s.heap := ⟨scr, hcb, hof, hkn, hsz, hval⟩
    have K : W p l e room_1 s m #[Value.ref b] below meth c s₁.heap [] 0 0 (lw_Z below #[Value.ref b] s) (entryFrame m ([Value.ref b] : List Value).toArray 9) := by
      rw [hh0]
      exact whole_start l hflags hbd ⟨B.exec, B.bytes, B.returns, hml, hown, hts, hX, hbl, B.notSynchronized, hgv⟩
    obtain ⟨t, a1, o, b1, b2, b3⟩ := K s₁ rfl X₀
    exact ⟨t, o, a1, b1, b2, b3⟩
theorem lw_pre_spec {args : Array Value} {s : State} (h : (Jvm.Cond.and given_1 narrow_1).before args s = true) (hr : rest_1_c.before args s = true) : ∃ (b : Addr) (xs : List Int32), lw_P b xs args s := by
  have hs := flat_of_before _ h
  have hq := flat_of_before _ hr
  have hc : (Cond.count 1).before args s = true := hs _ (by decide +kernel)
  have harr : (Cond.arrayOf (.arg 0) .int).before args s = true := hs _ (by decide +kernel)
  have hle : (Cond.le (.length (.arg 0)) (.int 2560)).before args s = true := hs _ (by decide +kernel)
  have hlen : (Cond.isInt (.length (.arg 0))).before args s = true := hq _ (by decide +kernel)
  have hall : (Cond.all (.arg 0) (.isInt (.elem (.arg 0) (.index 0)))).before args s = true := hq _ (by decide +kernel)
  obtain ⟨b, xs, hb, hx⟩ := State.ints_of_pre rfl harr hlen hall
  have hsm : xs.length < 2 ^ 31 := hx.choose_spec.2.2.2
  have hev : (Term.length (.arg 0)).eval args s none [] s = some (.int xs.length.toInt32) := hx.length_eval hb
  have hv := Cond.le_ints hev (show (Term.int 2560).eval args s none [] s = some (.int 2560) from rfl)
  have hd : xs.length.toInt32 ≤ 2560 := by
    simpa [Cond.before, Cond.holds, hv] using hle
  have hN : xs.length ≤ 2560 := (Int32.ofNat_le_ofNat hsm (by decide)).mp (show Int32.ofNat xs.length ≤ Int32.ofNat 2560 from hd)
  exact ⟨b, xs, Cond.one_arg hc (show args[0]? = some (.ref b) from hb), hx, hN, h⟩
theorem lw_comes (l : Launch) (hflags : l.flags = flags0) : Comes l x (Jvm.Cond.code x code maxLocals ret :: tables_1) room_1 (fun tb e args s => Calls_1 tb e args s ∧ rest_1 tb e args s ∧ Pre_1 tb e args s)
    (fun _ _ args s o t => lw_Q args s o t) := by
  intro p e ha hc hk s m args below hf hfit hheap happ hpre
  obtain ⟨b, xs, hP⟩ := lw_pre_spec hpre.2.2 hpre.2.1
  obtain ⟨k, o, h1, h2, h3, hQ⟩ := lw_walk l hflags b xs p e ha hc hk s m args below hf ((Spec.applies_iff_loose hf).mp happ).1 hP trivial
  exact ⟨k, o, h1, h2, h3, hQ⟩
theorem lw_frame {s t : State} {o : Outcome} {args : Array Value} (h : State.butDraws s t lw_cs (fun t1 => Framed s o t1 [] 601024 7293034)) :
    State.butDraws s t [Jvm.Choice.named "NaN.bits"] (fun t1 => Framed s o t1 (fieldLocs frame_1_writes args s ++ arrayLocs frame_1_arrays args s ++ staticLocs frame_1_statics s) 601024 7293034) := h
theorem lw_limb (L : Cond) (hL : ∀ (args : Array Value) (s t : State), L.after args s (.returned (some (.int 1))) t = true) :
    ArmFor flags0 classFile x code maxLocals ret World_1 tables_1 room_1 Calls_1 rest_1 Pre_1
      (fun tb e a s o t => postC L tb e a s o t ∧ State.butDraws s t [Jvm.Choice.named "NaN.bits"] (fun t1 => Framed s o t1 (fieldLocs frame_1_writes a s ++ arrayLocs frame_1_arrays a s ++ staticLocs frame_1_statics s) 601024 7293034)) := by
  intro l hflags _ _ p e ha hc hk s m args below hf hfit hheap happ hpre
  obtain ⟨k, o, h1, h2, h3, rfl, hF⟩ := lw_comes l hflags p e ha hc hk s m args below hf hfit hheap happ hpre
  exact ⟨k, _, h1, h2, h3, hL args s _, lw_frame hF⟩
theorem i_vc : Claimed_1_1 ∧ Claimed_1_2 := ⟨lw_limb limb_1_1 (fun args s t => by simp [limb_1_1, Cond.after, Cond.holds, Cond.value]), lw_limb limb_1_2 (fun args s t => Cond.after_iff.mpr (by
  first | (rw [show limb_1_2 = Cond.eq .result (.int 1) from rfl, Cond.eq_ints (x := 1) (y := 1) rfl rfl]; simp; done) | (simp [limb_1_2, Cond.value, Term.eval]; done)))⟩
