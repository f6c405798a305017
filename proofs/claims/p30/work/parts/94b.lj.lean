/-! THE LAW: its invariant, its script, numbers written -/
def clV (L : Nat) (xs : Nat → Int32) (k : Nat) : Int32 := if k < L then xs k else 32452867 * nI k + 15485863
/-- the rows of the script: a cell -/
def CP (l : Launch) (b L : Nat) (xs : Nat → Int32) (k : Nat) : Prop :=
  Met l yL_cell (Cond.code yL_cell cL_cell 2 (some .int) :: wB) ({ frames := 0, cells := 0, slots := 0, locals := 0 }) (va_Pc [.ref b, .int (nI k)] (fun U => va_X b L xs U U.heap ∧ b < U.heap.size)) (fun _ st oc t => oc = .returned (some (.int (clV L xs k))) ∧ va_F (fun _ => False) st t) 0 0 (fun _ => False)
theorem mL_cell (l : Launch) (b L : Nat) (xs : Nat → Int32) (k : Nat) (hL : L ≤ 260) (hk : k < 1000) : CP l b L xs k := by
  refine Met.ofW (cc := cL_cell) (maxL := 2) (ret := some .int) (by decide +kernel) rfl ?_
  intro p e s m args below meth c s₁ B hml hv
  obtain ⟨rfl, hX, hbl⟩ := hv
  have hts := atoms_spec (ws := Cond.code yL_cell cL_cell 2 (some .int) :: wB) B.pre
  have htg : ∀ w ∈ wB, w.before ([Value.ref b, .int (nI k)] : List Value).toArray s = true := fun w hw => hts w (List.mem_cons_of_mem _ hw)
  have hl := lv_entry [Value.ref b, .int (nI k)] (n := 2) (Nat.le_of_ble_eq_true rfl)
  rw [lg_entry_eq]
  have hx := B.exec
  have hb := B.bytes
  have hr := B.returns
  have hown := findClass_of_methodNamed B.named
  have hlocks := B.notSynchronized
  have hS : va_S (fun _ => False) s.heap s.heap [] := va_S.rf
  generalize (lg_sl ([Value.ref b, .int (nI k)]) ++ List.replicate (2 - (lg_sl ([Value.ref b, .int (nI k)])).length) Slot.unset).toArray = ls at hl ⊢
  have hl : lv_has ls 2 [(0, .ref b), (1, .int (nI k))] := hl
  refine lv_iload_n hx hb dL_cell_0 rfl (lv_at hl 1 rfl) ?_
  refine lv_aload_n hx hb dL_cell_1 rfl (lv_at hl 0 rfl) ?_
  refine va_slen hx hb hX hbl (fun h => h) hS dL_cell_2 ?_
  refine lv_icmp_geN (x := k) (y := L) (tgt := 12) hx hb (by omega) (by omega) dL_cell_3 (by decide) (fun c3 => ?_) (fun c3 => ?_)
  · refine lv_ldc (v := 32452867) hx hb hown (htg _ k1_L_7) dL_cell_12 ?_
    refine lv_iload_n hx hb dL_cell_14 rfl (lv_at hl 1 rfl) ?_
    refine lv_imul hx hb dL_cell_15 ?_
    refine lv_ldc (v := 15485863) hx hb hown (htg _ k1_L_8) dL_cell_16 ?_
    refine lv_iadd hx hb dL_cell_18 ?_
    refine W.zret hx hb hr rfl (fun t ht hW => ⟨?_, hS.F ht⟩) hS.2.2 dL_cell_19 hlocks
    unfold clV; rw [if_neg (by omega)]
  · refine lv_aload_n hx hb dL_cell_6 rfl (lv_at hl 0 rfl) ?_
    refine lv_iload_n hx hb dL_cell_7 rfl (lv_at hl 1 rfl) ?_
    refine va_sld hx hb hX hbl (fun h => h) hS (nI_in (by omega) (by omega)) dL_cell_8 ?_
    rw [nI_clamp (by omega)]
    refine lv_goto (tgt := 19) hx hb dL_cell_9 (by decide) ?_
    refine W.zret hx hb hr rfl (fun t ht hW => ⟨?_, hS.F ht⟩) hS.2.2 dL_cell_19 hlocks
    unfold clV; rw [if_pos (by omega)]
theorem CP_blind {b L k : Nat} {xs : Nat → Int32} : FrameBlind (va_Pc [.ref b, .int (nI k)] (fun U => va_X b L xs U U.heap ∧ b < U.heap.size)) := fun a U g mk q => by
  obtain ⟨q0, ⟨scr, h1, h2, h3, h4, h5⟩, q2⟩ := q
  exact ⟨q0, ⟨scr, h1, State.isArrayOf_alike (Vm.Alike.refl U.vm) h2, h3, h4, h5⟩, q2⟩
/-- the number of Z that a store of the law's writes -/
theorem pcw5_he {O L L' : Nat → va_E} {k : Nat} {e : va_E} (hk : k < 5) (h : ∀ i, i < 5 → va_up L k e i = L' i) : ∀ j, j < 203 → va_up (pcw O L) (198 + k) e j = pcw O L' j := fun j hj => by
  by_cases c : j < 198
  · rw [va_up_ne _ _ (by omega), pcl j c, pcl j c]
  · obtain ⟨i, rfl⟩ : ∃ i, j = 198 + i := ⟨j - 198, by omega⟩
    rw [pcr (N1 := 5) i (by omega), ← h i (by omega)]
    unfold va_up
    by_cases q : i = k
    · subst q; rw [if_pos rfl, if_pos rfl]
    · rw [if_neg (by omega), if_neg q, pcr (N1 := 5) i (by omega)]
section LHE
variable {ct : Nat → ClassId} {Z : Nat → Int32} {r x : Int32} {k j : Nat}
theorem lhA (hk : k < 10) (hj : j < 6) : ∀ i, i < 5 → va_up (lwc ct Z r) 0 (.inl (ct 0, 60, .inl (upd (vwA Z) (6 * k + j) x))) i = lwc ct (upd Z (39 + 8 * k + j) x) r i :=
  lwc_he (by rw [vwA_upd hk hj]; rfl) (fun h => absurd rfl h) (fun _ => vwM_no (fun _ _ _ _ => by omega)) (fun _ => vwB_no (fun _ _ => by omega)) (fun _ => rfl) (fun _ => vwT_no (by omega))
theorem lhA0 (hk : k < 10) : ∀ i, i < 5 → va_up (lwc ct Z r) 0 (.inl (ct 0, 60, .inl (upd (vwA Z) (6 * k) x))) i = lwc ct (upd Z (39 + 8 * k + 0) x) r i := lhA (j := 0) hk (by omega)
theorem lhB (hk : k < 4) (hj : j < 5) : ∀ i, i < 5 → va_up (lwc ct Z r) 2 (.inl (ct 0, 20, .inl (upd (vwB Z) (5 * k + j) x))) i = lwc ct (upd Z (7 + 5 * k + j) x) r i :=
  lwc_he (by rw [vwB_upd hk hj]; rfl) (fun _ => vwA_no (fun _ _ _ _ => by omega)) (fun _ => vwM_no (fun _ _ _ _ => by omega)) (fun h => absurd rfl h) (fun _ => rfl) (fun _ => vwT_no (by omega))
theorem lhB0 (hk : k < 4) : ∀ i, i < 5 → va_up (lwc ct Z r) 2 (.inl (ct 0, 20, .inl (upd (vwB Z) (5 * k) x))) i = lwc ct (upd Z (7 + 5 * k + 0) x) r i := lhB (j := 0) hk (by omega)
theorem lhT (hj : j < 7) : ∀ i, i < 5 → va_up (lwc ct Z r) 4 (.inl (ct 0, 7, .inl (upd (vwT Z) j x))) i = lwc ct (upd Z j x) r i :=
  lwc_he (by rw [vwT_upd hj]; rfl) (fun _ => vwA_no (fun _ _ _ _ => by omega)) (fun _ => vwM_no (fun _ _ _ _ => by omega)) (fun _ => vwB_no (fun _ _ => by omega)) (fun _ => rfl) (fun h => absurd rfl h)
theorem lhR : ∀ i, i < 5 → va_up (lwc ct Z r) 3 (.inl (ct 0, 1, .inl (upd (vwR r) 0 x))) i = lwc ct Z x i :=
  lwc_he (by rw [vwR_upd]; rfl) (fun _ => rfl) (fun _ => rfl) (fun _ => rfl) (fun h => absurd rfl h) (fun _ => rfl)
/-- a switch is in no view -/
theorem lw_27 {q : Nat} (hq : q < 12) : lwc ct (upd Z (27 + q) x) r = lwc ct Z r := by
  unfold lwc
  rw [vwA_no (fun _ _ _ _ => by omega), vwM_no (fun _ _ _ _ => by omega), vwB_no (fun _ _ => by omega), vwT_no (by omega)]
end LHE
/-- rows behind the last stall -/
def tl (Z : Nat → Int32) (n : Nat) : Prop := ∀ k, n ≤ k → k < 10 → Z (39 + 8 * k + 5) = 0 ∧ Z (39 + 8 * k + 6) = 0 ∧ Z (39 + 8 * k + 7) = 0
/-- what holds ahead of choice e -/
def LJ (ct : Nat → ClassId) (ad : Nat → Nat) (O : Nat → va_E) (Z : Nat → Int32) (r : Int32) (n e : Nat) : Prop :=
  OS ct ad O Z n ∧ rI Z n ∧ lG r Z n ∧ tl Z n ∧ sumS Z 6 n = sumB Z 4 4 ∧ (∃ h, h ≤ 48 * e ∧ Z 3 = nI h) ∧ (2 ≤ n ∨ n = e)
/-- all that a change of a number of no meter keeps -/
theorem LJ_upd {ct : Nat → ClassId} {ad : Nat → Nat} {O O' : Nat → va_E} {Z : Nat → Int32} {r r' : Int32} {n e i : Nat} {x : Int32} (h : LJ ct ad O Z r n e) (hn : 2 ≤ n) (hO : OS ct ad O' (upd Z i x) n) (hr : rI (upd Z i x) n) (hg : lG r' (upd Z i x) n) (h3 : i ≠ 3) (hk : ∀ k, i ≠ 39 + 8 * k + 6 ∧ i ≠ 39 + 8 * k + 7) (h5 : ∀ k, n ≤ k → i ≠ 39 + 8 * k + 5) (hb : ∀ b, b < 4 → i ≠ 7 + 5 * b + 4) : LJ ct ad O' (upd Z i x) r' n (e + 1) := by
  obtain ⟨-, -, -, h4, hs, ⟨t, t1, t2⟩, -⟩ := h
  refine ⟨hO, hr, hg, fun k hk1 hk2 => ?_, ?_, ⟨t, by omega, by rw [upd_n (Ne.symm h3)]; exact t2⟩, Or.inl hn⟩
  · rw [upd_n (Ne.symm (h5 k hk1)), upd_n (Ne.symm (hk k).1), upd_n (Ne.symm (hk k).2)]; exact h4 k hk1 hk2
  · rw [sumS_congr (by omega) n (fun k hk1 => upd_n (Ne.symm (hk k).1)), sumB_congr 4 (fun b hb1 => upd_n (Ne.symm (hb b hb1)))]; exact hs
theorem LJ_same {ct : Nat → ClassId} {ad : Nat → Nat} {O O' : Nat → va_E} {Z : Nat → Int32} {r : Int32} {n e : Nat} (h : LJ ct ad O Z r n e) (hn : 2 ≤ n) (hO : OS ct ad O' Z n) : LJ ct ad O' Z r n (e + 1) := by
  obtain ⟨-, hr, hg, h4, hs, ⟨t, t1, t2⟩, -⟩ := h
  exact ⟨hO, hr, hg, h4, hs, ⟨t, by omega, t2⟩, Or.inl hn⟩
theorem lG_sock {r x : Int32} {Z : Nat → Int32} {n k : Nat} (hg : lG r Z n) (hx : x = -1 ∨ ∃ q, q < 12 ∧ x = nI q) : lG r (upd Z (39 + 8 * k + 4) x) n := by
  refine ⟨⟨hg.1.1, by rw [upd_n (by omega)]; exact hg.1.2.1, fun j hj => ?_, fun b hb => by rw [upd_n (by omega)]; exact hg.1.2.2.2 b hb⟩, fun s hs => by rw [upd_n (by omega)]; exact hg.2.1 s hs, by rw [upd_n (by omega)]; exact hg.2.2.1, fun j hj => by rw [upd_n (by omega), upd_n (by omega)]; exact hg.2.2.2 j hj⟩
  by_cases c : j = k
  · subst c; rw [upd_s]; exact hx
  · rw [upd_n (by omega)]; exact hg.1.2.2.1 j hj
theorem lG_bound {r : Int32} {Z : Nat → Int32} {n b v : Nat} (hg : lG r Z n) (hb : b < 4) (hv : v < 2147483648) : lG r (upd Z (7 + 5 * b + 0) (nI v)) n :=
  lG_of hg (bnd_zW hg.1 hb hv) (fun z _ hz => by rw [upd_n (by rcases hz with h | h | ⟨k, hk, h | h⟩ <;> omega)])
theorem lG_over {r r' x : Int32} {Z : Nat → Int32} {n q : Nat} (hg : lG r Z n) (hq : q < 12) (h : rM r' (upd Z (27 + q) x)) : lG r' (upd Z (27 + q) x) n := by
  refine ⟨zW_upd hg.1 (by omega) (fun _ _ => by omega) (fun _ _ => by omega), h, by rw [upd_n (by omega)]; exact hg.2.2.1, fun j hj => by rw [upd_n (by omega), upd_n (by omega)]; exact hg.2.2.2 j hj⟩
section NWG
variable {p : Program} {l : Launch} {e : Env} {R : Room} {s : State} {m : MethodId} {args : Array Value} {below : List Frame} {meth : Method} {c : Code} {H : Heap} {locs : List Loc} {cells slots : Nat} {Q : State → Prop}
variable {cc : ByteArray} {pc : Nat} {ls : Array Slot} {rest : List Value} {D : va_G} {ct : Nat → ClassId} {N : Nat} {ad : Nat → Nat} {ce ce' : Nat → va_E} {A0 : Nat → Prop}
theorem gW_blind {av : List Value} {A1 : Nat → Prop} : FrameBlind (va_Pc av (fun U => fW D ct N ad ce U ∧ gE A1 U U.heap)) := fun a U g mk q => by
  obtain ⟨q0, ⟨qP, qK, qI⟩, qE⟩ := q
  exact ⟨q0, ⟨qP, va_K.moved (u := U) (U := U.calling g mk a) (Vm.Alike.refl U.vm) qK, qI⟩, gE.to (s := U) (U := U.calling g mk a) qE (State.WarmedH.refl U) (fun _ _ _ => rfl)⟩
/-- a method of the object that stands on the statics -/
theorem nw_G {ceO ceO' : Nat → va_E} {nL : Nat} {own : String} {y : MethodName} {cy : ByteArray} {maxL : Nat} {ret : Option FieldType} {fr lo : Nat} {As st0 : List Value} {rv : Value} {idx n : Nat} {fs : List Value}
    (hx : p.tables.exec = Jvm.exec) (hb : c.code = cc) (hml : c.maxLocals = nL) (hown : s.vm.findClass own = some m.cls) (htg : ∀ w ∈ wB, w.before args s = true) (hK : va_K D vwCl (fTys ct) s) (hI : fI N ad) (hP : fP D N ad ce H) (hS : va_S A0 s.heap H locs) (hA0 : ∀ i, i < N → A0 (ad i)) (hE : gE A0 s s.heap) (hl : ls.size = nL)
    (hN : 198 ≤ N) (hce : ∀ z, z < 198 → ce z = ceO z) (he : ∀ z, z < 198 → ce' z = ceO' z) (ho : ∀ i, i < N → 198 ≤ i → ce' i = ce i)
    (hM : GMet l y cy maxL ret fr lo D ct 198 ad (.ref (ad 0) :: As) ceO (some rv) ceO') (hcw : cwf own idx RX5 y cy maxL ret n) (h0 : ceO 0 = .inr (5, fs))
    (hst : st0 = As.reverse ++ .ref (ad 0) :: rest) (hn : As.length = n) (hR : fr + 1 ≤ R.frames ∧ 8 + (maxL + 11) + lo ≤ R.locals) (hroom : (rest.map fun v => v.category).sum ≤ 8) (hdg : decode cc pc = .ok (.invokevirtual idx, 3)) (hf : cells ≤ R.cells ∧ slots ≤ R.slots)
    (kk : ∀ (H1 : Heap) (locs1 : List Loc), fP D N ad ce' H1 → va_S A0 s.heap H1 locs1 → W p l e R s m args below meth c H1 locs1 cells slots Q (F0 m (pc + 3) ls (rv :: rest))) : W p l e R s m args below meth c H locs cells slots Q (F0 m pc ls st0) := by
  intro T hT X
  have hP1 : fP D 198 ad ceO H := fP.of fun z hz => by have h := hP.at (show z < N by omega); rw [hce z hz] at h; exact h
  have hI1 : fI 198 ad := fun i j hi hj e9 => hI i j (by omega) (by omega) e9
  have hin : ∀ q, fA 198 ad q → A0 q := fun q9 ⟨i9, h9, e9⟩ => by rw [e9]; exact hA0 _ (by omega)
  obtain ⟨v9, st₀, t, T', L, h09, X', hL, e1, e2, ⟨⟨hv, hw1, hw2, hw3⟩, hz, hk⟩, st⟩ := va_runV (As := As) (rest := rest) (g := F0 m pc ls st0) ⟨hx, hb, hml, hown, htg⟩ hM (cwV n htg hcw.1 rfl rfl rfl hcw.2 hR) ⟨gW_blind, va_recv hK hP1 (ci := 5) rfl (by rw [← h0]; exact vl_get (by omega)), fun U hU hW => ⟨rfl, ⟨by rw [hU]; exact hP1, va_K.moved hW.alike hK, hI1⟩, by rw [hU]; exact (hE.to hW hS.2.1).narrow hin⟩⟩ rfl hn hl hst (lv_room hroom) hdg hf T hT X
  cases hv
  rw [h09] at hz hk
  obtain ⟨t2, a1, b1⟩ := kk T'.heap (locs ++ L) (fP.of fun i hi => by
      by_cases c : i < 198
      · rw [he i c, e1]; exact hw1.at c
      · rw [ho i hi (by omega), e1]; exact (hP.at hi).kept (hk _ (hP.lt hi) (fun ⟨z, hz, e9⟩ => c (by have := hI _ _ hi (by omega) e9; omega))))
    ⟨Nat.le_trans hS.1 (by rw [e1]; exact hz), fun q h1 h2 => by rw [e1, hk q (Nat.lt_of_lt_of_le h1 hS.1) (fun z => h2 (hin q z))]; exact hS.2.1 q h1 h2, fun q hq => by
      rcases List.mem_append.mp hq with h | h
      · exact hS.2.2 q h
      · exact hin _ (hL q h)⟩ T' rfl X'
  exact ⟨t2, st t2 a1, b1⟩
/-- a cell of the script -/
theorem nw_cell {nL b L k : Nat} {xs : Nat → Int32} {own : String} {idx : Nat} {st0 : List Value}
    (hx : p.tables.exec = Jvm.exec) (hb : c.code = cc) (hml : c.maxLocals = nL) (hown : s.vm.findClass own = some m.cls) (htg : ∀ w ∈ wB, w.before args s = true) (hP : fP D N ad ce H) (hS : va_S A0 s.heap H locs) (hl : ls.size = nL)
    (hX : va_X b L xs s s.heap) (hbl : b < s.heap.size) (hbA : ¬ A0 b) (hM : CP l b L xs k) (hcw : cwg own idx yL_cell cL_cell 2 (some .int) 2)
    (hst : st0 = .int (nI k) :: .ref b :: rest) (hR : 1 ≤ R.frames ∧ 8 + (2 + 11) + 0 ≤ R.locals) (hroom : (rest.map fun v => v.category).sum ≤ 8) (hdg : decode cc pc = .ok (.invokestatic idx, 3)) (hf : cells ≤ R.cells ∧ slots ≤ R.slots)
    (kk : ∀ (H1 : Heap) (locs1 : List Loc), fP D N ad ce H1 → va_S A0 s.heap H1 locs1 → W p l e R s m args below meth c H1 locs1 cells slots Q (F0 m (pc + 3) ls (.int (clV L xs k) :: rest))) : W p l e R s m args below meth c H locs cells slots Q (F0 m pc ls st0) := by
  intro T hT X
  have hbH : H[b]? = s.heap[b]? := hS.2.1 b hbl hbA
  obtain ⟨v9, st₀, t, T', L9, h09, X', hL, e1, e2, ⟨hv, hz, hk⟩, st⟩ := va_runS (As := [.ref b, .int (nI k)]) (rest := rest) (g := F0 m pc ls st0) ⟨hx, hb, hml, hown, htg⟩ hM (va_cwS 2 htg hcw.1 rfl rfl rfl hcw.2 hR) ⟨CP_blind, fun U hU hW => ⟨rfl, by
      obtain ⟨scr, h1, h2, h3, h4, h5⟩ := hX
      exact ⟨scr, by rw [hU, hbH]; exact h1, State.isArrayOf_alike hW.alike h2, h3, h4, h5⟩, by rw [hU]; exact Nat.lt_of_lt_of_le hbl hS.1⟩⟩ rfl rfl hl hst (lv_room hroom) hdg hf T hT X
  cases hv
  rw [h09] at hz hk
  obtain ⟨t2, a1, b1⟩ := kk T'.heap (locs ++ L9) (fP.of fun i hi => by rw [e1]; exact (hP.at hi).kept (hk _ (hP.lt hi) (fun h => h)))
    ⟨Nat.le_trans hS.1 (by rw [e1]; exact hz), fun q h1 h2 => by rw [e1, hk q (Nat.lt_of_lt_of_le h1 hS.1) (fun h => h)]; exact hS.2.1 q h1 h2, fun q hq => by
      rcases List.mem_append.mp hq with h | h
      · exact hS.2.2 q h
      · exact absurd (hL q h) (fun h => h)⟩ T' rfl X'
  exact ⟨t2, st t2 a1, b1⟩
end NWG
