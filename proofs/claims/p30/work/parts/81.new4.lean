/-! WHAT IS MADE: a market -/
/-- a new market's numbers -/
def iM : Nat → Int32 := fun z => if z = 0 then nI 2 else if z = 2 then nI 3 else if z < 7 then 0 else if z < 27 then (if (z - 7) % 5 = 0 then nI 200 else if (z - 7) % 5 = 1 then nI 1 else 0) else if z < 39 then 0 else if z < 119 then (if (z - 39) % 8 = 4 then -1 else 0) else if z < 129 then -1 else 0
abbrev stN : List Value := [.int 0, .int 0, .int 0, .int 0, .int (-1), .int 0, .int 0, .int 0, .int (-1)]
abbrev brN : List Value := [.int (nI 200), .int (nI 1), .int 0, .int 0, .int 0, .int 0]
/-- a market with k stalls and b breakers made -/
def mkp (ct : Nat → ClassId) (ad : Nat → Nat) (k b : Nat) : Nat → va_E := fun i =>
  if i = 0 then .inr (2, [.ref (ad 1), .int 0, .ref (ad 2), .ref (ad 3), .ref (ad 4), .int 0, .int 0, .int 0]) else if i = 1 then .inl (ct 3, 10, .inr (.inr (.inr (.inr fun j => if j < k then some (ad (5 + j)) else none)))) else if i = 2 then .inl (ct 4, 4, .inr (.inr (.inr (.inr fun j => if j < b then some (ad (15 + j)) else none)))) else if i = 3 then .inl (ct 1, 12, .inl (fun _ => 0)) else if i = 4 then .inl (ct 0, 3, .inl (cutA 3 0 iM)) else if i < 15 then .inr (4, stN) else .inr (0, brN)
theorem mkp_1 {ct : Nat → ClassId} {ad : Nat → Nat} {k b : Nat} : mkp ct ad k b 1 = .inl (ct 3, 10, .inr (.inr (.inr (.inr fun j => if j < k then some (ad (5 + j)) else none)))) := rfl
theorem mkp_2 {ct : Nat → ClassId} {ad : Nat → Nat} {k b : Nat} : mkp ct ad k b 2 = .inl (ct 4, 4, .inr (.inr (.inr (.inr fun j => if j < b then some (ad (15 + j)) else none)))) := rfl
theorem mkp_st {ct : Nat → ClassId} {ad : Nat → Nat} {k b i : Nat} (h : 5 ≤ i) (h2 : i < 15) : mkp ct ad k b i = .inr (4, stN) := by
  unfold mkp; rw [if_neg (by omega), if_neg (by omega), if_neg (by omega), if_neg (by omega), if_neg (by omega), if_pos h2]
theorem mkp_br {ct : Nat → ClassId} {ad : Nat → Nat} {k b i : Nat} (h : 15 ≤ i) : mkp ct ad k b i = .inr (0, brN) := by
  unfold mkp; rw [if_neg (by omega), if_neg (by omega), if_neg (by omega), if_neg (by omega), if_neg (by omega), if_neg (by omega)]
theorem mkp_ad {ct : Nat → ClassId} {ad ad2 : Nat → Nat} {k b N i : Nat} (h : ∀ j, j < N → ad2 j = ad j) (h5 : 5 + k ≤ N) (hb : b = 0 ∨ 15 + b ≤ N) : mkp ct ad2 k b i = mkp ct ad k b i := by
  unfold mkp
  rw [h 1 (by omega), h 2 (by omega), h 3 (by omega), h 4 (by omega)]
  have e1 : (fun j => if j < k then some (ad2 (5 + j)) else none) = fun j => if j < k then some (ad (5 + j)) else none := by
    funext j
    by_cases c : j < k
    · rw [if_pos c, if_pos c, h _ (by omega)]
    · rw [if_neg c, if_neg c]
  have e2 : (fun j => if j < b then some (ad2 (15 + j)) else none) = fun j => if j < b then some (ad (15 + j)) else none := by
    funext j
    by_cases c : j < b
    · rw [if_pos c, if_pos c, h _ (by omega)]
    · rw [if_neg c, if_neg c]
  rw [e1, e2]
theorem iM_c : cutA 12 27 iM = fun _ => 0 := by
  funext q; unfold cutA
  by_cases c : q < 12
  · rw [if_pos c]; unfold iM
    rw [if_neg (by omega), if_neg (by omega), if_neg (by omega), if_neg (by omega), if_pos (by omega)]
  · rw [if_neg c]
theorem iM_s {k j : Nat} (hk : k < 10) (hj : j < 8) : iM (39 + 8 * k + j) = if j = 4 then -1 else 0 := by
  unfold iM
  rw [if_neg (by omega), if_neg (by omega), if_neg (by omega), if_neg (by omega), if_neg (by omega), if_pos (by omega), show (39 + 8 * k + j - 39) % 8 = j by omega]
theorem iM_b {b j : Nat} (hb : b < 4) (hj : j < 5) : iM (7 + 5 * b + j) = if j = 0 then nI 200 else if j = 1 then nI 1 else 0 := by
  unfold iM
  rw [if_neg (by omega), if_neg (by omega), if_neg (by omega), if_pos (by omega), show (7 + 5 * b + j - 7) % 5 = j by omega]
theorem mkp_mkc {ct : Nat → ClassId} {ad : Nat → Nat} : ∀ i, i < 19 → mkp ct ad 10 4 i = mkc ct ad iM i := by
  intro i hi
  by_cases c5 : i < 5
  · rcases (show i = 0 ∨ i = 1 ∨ i = 2 ∨ i = 3 ∨ i = 4 by omega) with rfl | rfl | rfl | rfl | rfl
    · rfl
    · rfl
    · rfl
    · show Sum.inl (ct 1, 12, Sum.inl (fun _ => 0)) = Sum.inl (ct 1, 12, Sum.inl (cutA 12 27 iM))
      rw [iM_c]
    · rfl
  · by_cases c : i < 15
    · obtain ⟨k, rfl⟩ : ∃ k, i = 5 + k := ⟨i - 5, by omega⟩
      rw [mkp_st (by omega) c, mkc_st (by omega)]
      unfold stF
      have e : iM (119 + k) = -1 := by
        unfold iM
        rw [if_neg (by omega), if_neg (by omega), if_neg (by omega), if_neg (by omega), if_neg (by omega), if_neg (by omega), if_pos (by omega)]
      rw [iM_s (by omega) (by omega), iM_s (by omega) (by omega), iM_s (by omega) (by omega), iM_s (by omega) (by omega), iM_s (by omega) (by omega), iM_s (by omega) (by omega), iM_s (by omega) (by omega), iM_s (by omega) (by omega), e]
      rfl
    · obtain ⟨b, rfl⟩ : ∃ b, i = 15 + b := ⟨i - 15, by omega⟩
      rw [mkp_br (by omega), mkc_br]
      unfold brF
      have e : iM (129 + b) = 0 := by
        unfold iM
        rw [if_neg (by omega), if_neg (by omega), if_neg (by omega), if_neg (by omega), if_neg (by omega), if_neg (by omega), if_neg (by omega)]
      rw [iM_b (by omega) (by omega), iM_b (by omega) (by omega), iM_b (by omega) (by omega), iM_b (by omega) (by omega), iM_b (by omega) (by omega), e]
      rfl
theorem kl_1 : Cond.methodLink RX2 31 ⟨"[I", "clone", "()Ljava/lang/Object;"⟩ ∈ wB := xb (by decide +kernel) rfl
theorem kl_2 : Cond.sameMethod "[I" "java/lang/Object" "clone" "()Ljava/lang/Object;" ∈ wB := xb (by decide +kernel) rfl
theorem kl_3 : Cond.native ⟨"java/lang/Object", "clone", "()Ljava/lang/Object;"⟩ ∈ wB := xb (by decide +kernel) rfl
theorem kl_4 : Cond.instanceMethod ⟨"java/lang/Object", "clone", "()Ljava/lang/Object;"⟩ ∈ wB := xb (by decide +kernel) rfl
theorem kl_5 : Cond.selects "[I" ⟨"[I", "clone", "()Ljava/lang/Object;"⟩ ⟨"java/lang/Object", "clone", "()Ljava/lang/Object;"⟩ ∈ wB := xb (by decide +kernel) rfl
section MKC
variable {p : Program} {l : Launch} {e : Env} {R : Room} {s : State} {m : MethodId} {args : Array Value} {below : List Frame} {meth : Method} {c : Code} {H : Heap} {locs : List Loc} {cells slots : Nat} {Q : State → Prop}
variable {cc : ByteArray} {pc : Nat} {ls : Array Slot} {rest : List Value} {D : va_G} {ct : Nat → ClassId} {N : Nat} {ad : Nat → Nat} {ce : Nat → va_E} {A0 : Nat → Prop}
theorem rn_clone {t : Nat} {cell : Cell} (hx : p.tables.exec = Jvm.exec) (hb : c.code = cc) (hml : c.maxLocals = ls.size) (hown : s.vm.findClass RX2 = some m.cls) (htg : ∀ w ∈ wB, w.before args s = true) (hK : va_K D vwCl (fTys ct) s) (hI : fI N ad) (hP : fP D N ad ce H) (hA0 : ∀ k, k < N → A0 (ad k)) (hS : va_S A0 s.heap H locs) (hA : ∀ q, s.heap.size ≤ q → A0 q)
    (hc2 : s.heap[t]? = some cell) (hc3 : s.isArrayOf cell .int) (hc4 : cell.vm ≠ .unknown) (hc5 : s.vm.findClass "[I" = some cell.cls) (hc6 : cell.slots = #[.int (nI 2), .int (nI 0), .int (nI 3)]) (hc7 : ¬ A0 t) (hcl : va_Nw (.castable "[I" "java/lang/Cloneable") s)
    (hframes : 1 ≤ R.frames) (hlocals : (rest.map fun v => v.category).sum + 14 ≤ R.locals) (hroom : cells + 1 ≤ R.cells ∧ slots + 3 ≤ R.slots) (hdg : decode cc pc = .ok (.invokevirtual 31, 3))
    (kk : ∀ (q : Nat) (H1 : Heap), fP D (N + 1) (adS ad N q) (va_up ce N (.inl (ct 0, 3, .inl (cutA 3 0 iM)))) H1 → fI (N + 1) (adS ad N q) → (∀ k, k < N + 1 → A0 (adS ad N q k)) → va_S A0 s.heap H1 locs → W p l e R s m args below meth c H1 locs (cells + 1) (slots + 3) Q (F0 m (pc + 3) ls (.ref q :: rest))) : W p l e R s m args below meth c H locs cells slots Q (F0 m pc ls (.ref t :: rest)) := by
  have hlt : t < s.heap.size := (Array.getElem?_eq_some_iff.mp hc2).1
  have hcH : H[t]? = some cell := (hS.2.1 t hlt hc7).trans hc2
  obtain ⟨c0, t0', f1, f2, f3⟩ := Cond.castable_spec (va_Nw.use (A := args) rfl hcl)
  have hcc : c0 = cell.cls := Option.some.inj (f1.symm.trans hc5)
  have hct : ct 0 = cell.cls := Option.some.inj ((va_nm_int (hK.2 0 (ct 0, .int) rfl).2).symm.trans hc5)
  intro T hT X
  have hcellT : T.heap[t]? = some cell := by rw [hT]; exact hcH
  obtain ⟨-, kA, hkA, comp, hkind⟩ := State.isArrayOf_alike X.warmed.alike hc3
  obtain ⟨hob, kS, hkS, compS, hkindS⟩ := hc3
  obtain ⟨vm', X', st⟩ := X.cloneArray hx hown (htg _ kl_1) (htg _ kl_2) (htg _ kl_3) (htg _ kl_4) (htg _ kl_5) (a := t) (cell := cell) hcellT hob hc4 hc5 f2 (by rw [← hcc]; exact f3)
    (fun i v hv => by
      have hk' : T.vm.classes[cell.cls]? = some kA := hkA
      rw [hc6] at hv
      rcases i with _ | _ | _ | i
      · cases hv; simp [State.fitsSlot, State.slotType?, hk', hkind]; rfl
      · cases hv; simp [State.fitsSlot, State.slotType?, hk', hkind]; rfl
      · cases hv; simp [State.fitsSlot, State.slotType?, hk', hkind]; rfl
      · simp at hv)
    (g := F0 m pc ls (.ref t :: rest)) rfl (by rw [hml]) rfl (by rw [hb]; exact hdg) hframes (by show 2 * 0 + _ + 14 ≤ _; omega) hroom.1 (by rw [hc6]; exact hroom.2) (hloader := Vm.clonesLoader_of_array hkS hkindS)
  have hnew : ({ cls := cell.cls, slots := cell.slots } : Cell) = vp_cell (ct 0) (3, .inl (cutA 3 0 iM)) := by
    rw [hct, hc6, vp_cell_i]
    unfold arrV
    congr 1
  rw [hnew, show cell.slots.size = 3 by rw [hc6]; rfl] at X'
  have hP2 : va_P D vwCl (vl N ad ce ++ [(H.size, .inl (ct 0, 3, .inl (cutA 3 0 iM)))]) (H.push (vp_cell (ct 0) (3, .inl (cutA 3 0 iM)))) := by
    refine ((show va_P D vwCl (vl N ad ce) H from hP).kept (fun k y hy => ?_)).app (fun k y hy => ?_)
    · rw [Array.getElem?_push, if_neg (Nat.ne_of_lt ((hP k y hy).lt))]
    · have hz : k < 1 := (List.getElem?_eq_some_iff.mp hy).1
      rw [show k = 0 by omega] at hy
      cases hy
      exact Array.getElem?_push_size
  have hD2 := (fD (ce := ce) hI hA0).push (show va_P D vwCl (vl N ad ce) H from hP) (e := .inl (ct 0, 3, .inl (cutA 3 0 iM))) rfl (hA _ hS.1)
  obtain ⟨g1, g2, g3⟩ := grown hP2 hD2
  obtain ⟨t2, b1, b2⟩ := kk H.size _ g1 g2 g3 ⟨Nat.le_trans hS.1 (by rw [Array.size_push]; omega), fun y h1 h2 => by rw [Array.getElem?_push, if_neg (Nat.ne_of_lt (Nat.lt_of_lt_of_le h1 hS.1))]; exact hS.2.1 y h1 h2, hS.2.2⟩ ((T.setVm vm').pushCell (vp_cell (ct 0) (3, .inl (cutA 3 0 iM)))) (by rw [← hT]; rfl) X'
  refine ⟨t2, st t2 ?_, b2⟩
  rw [hnew, hT]
  exact b1
end MKC
