/-! THE LAW: when a breaker trips, the least bound -/
theorem z207 : ∀ z, z < 5 → (fun z => 198 + z) z < 207 := fun z h => by show 198 + z < 207; omega
theorem y207 : ∀ z, z < 5 → (fun z => 198 + nmY z) z < 207 := fun z h => by have := nmY_9 z h; show 198 + nmY z < 207; omega
theorem y_inj7 : ∀ i j, i < 5 → j < 5 → (fun z => 198 + nmY z) i = (fun z => 198 + nmY z) j → i = j := fun i j hi hj h => by
  have h : 198 + nmY i = 198 + nmY j := h
  exact nmY_inj i j hi hj (by omega)
theorem pz7 {O : Nat → va_E} {ct : Nat → ClassId} {Z Y : Nat → Int32} {r : Int32} : ∀ z, z < 5 → pcw O (g9 ct Z Y r) (198 + z) = lwc ct Z r z := fun z h => by
  rw [pcr (N1 := 5) z h]
  have := g9_Z (ct := ct) (Z := Z) (Y := Y) (r := r) z h
  rw [Nat.zero_add] at this
  exact this
theorem py7 {O : Nat → va_E} {ct : Nat → ClassId} {Z Y : Nat → Int32} {r : Int32} : ∀ z, z < 5 → pcw O (g9 ct Z Y r) (198 + nmY z) = lwc ct Y r z := fun z h => by
  rw [pcr (N1 := 9) _ (nmY_9 z h)]; exact g9_Y z h
theorem pyo7 {O : Nat → va_E} {ct : Nat → ClassId} {Z Y X : Nat → Int32} {r : Int32} : ∀ i, i < 207 → (∀ z, z < 5 → i ≠ 198 + nmY z) → pcw O (g9 ct Z X r) i = pcw O (g9 ct Z Y r) i := fun i hi ho => by
  by_cases c : i < 198
  · rw [pcl i c, pcl i c]
  · obtain ⟨j, rfl⟩ : ∃ j, i = 198 + j := ⟨i - 198, by omega⟩
    rw [pcr (N1 := 9) j (by omega), pcr (N1 := 9) j (by omega)]
    exact g9_Yo j (by omega) (fun z hz e => ho z hz (by omega))
theorem pcw_he {O L L' : Nat → va_E} {k : Nat} {e : va_E} (h : ∀ i, i < 9 → va_up L k e i = L' i) : ∀ j, j < 207 → va_up (pcw O L) (198 + k) e j = pcw O L' j := fun j hj => by
  by_cases c : j < 198
  · rw [va_up_ne _ _ (by omega), pcl j c, pcl j c]
  · obtain ⟨i, rfl⟩ : ∃ i, j = 198 + i := ⟨j - 198, by omega⟩
    rw [pcr (N1 := 9) i (by omega), ← h i (by omega)]
    unfold va_up
    by_cases q : i = k
    · subst q; rw [if_pos rfl, if_pos rfl]
    · rw [if_neg (by omega), if_neg q, pcr (N1 := 9) i (by omega)]
theorem g9_sB0 {ct : Nat → ClassId} {Z Y : Nat → Int32} {r x : Int32} {k : Nat} (hk : k < 4) : ∀ i, i < 9 → va_up (g9 ct Z Y r) 7 (.inl (ct 0, 20, .inl (upd (vwB Y) (5 * k) x))) i = g9 ct Z (upd Y (7 + 5 * k + 0) x) r i := g9_sB (j := 0) hk (by omega)
theorem pgw {O L L' : Nat → va_E} {x y : Nat} (h : ∀ i, i < 9 → i ≠ y → L' i = L i) : ∀ i, i < 207 → (∀ z, z < 2 → i ≠ (fun z => if z = 0 then x else 198 + y) z) → pcw O L' i = pcw O L i := fun i hi ho => by
  by_cases c : i < 198
  · rw [pcl i c, pcl i c]
  · obtain ⟨j, rfl⟩ : ∃ j, i = 198 + j := ⟨i - 198, by omega⟩
    rw [pcr (N1 := 9) j (by omega), pcr (N1 := 9) j (by omega)]
    have h1 : 198 + j ≠ 198 + y := ho 1 (by omega)
    exact h j (by omega) (by omega)
section GWC
variable {O : Nat → va_E} {ct : Nat → ClassId} {Z : Nat → Int32} {r : Int32} {f5 f6 f7 f8 g : Nat → Int32}
theorem gw_c {i : Nat} (h : i < 5) : gw ct Z r f5 f6 f7 f8 i = lwc ct Z r i := if_pos h
theorem pgw0 : ∀ i, i < 207 → (∀ z, z < 2 → i ≠ (fun z => if z = 0 then 198 else 203) z) → pcw O (gw ct Z r g f6 f7 f8) i = pcw O (gw ct Z r f5 f6 f7 f8) i :=
  pgw (y := 5) fun i hi h => by rcases (show i < 5 ∨ i = 5 ∨ i = 6 ∨ i = 7 ∨ i = 8 by omega) with c | rfl | rfl | rfl | rfl <;> first | rfl | exact absurd rfl h | rw [gw_c c, gw_c c]
theorem pgw1 : ∀ i, i < 207 → (∀ z, z < 2 → i ≠ (fun z => if z = 0 then 199 else 204) z) → pcw O (gw ct Z r f5 g f7 f8) i = pcw O (gw ct Z r f5 f6 f7 f8) i :=
  pgw (y := 6) fun i hi h => by rcases (show i < 5 ∨ i = 5 ∨ i = 6 ∨ i = 7 ∨ i = 8 by omega) with c | rfl | rfl | rfl | rfl <;> first | rfl | exact absurd rfl h | rw [gw_c c, gw_c c]
theorem pgw2 : ∀ i, i < 207 → (∀ z, z < 2 → i ≠ (fun z => if z = 0 then 200 else 205) z) → pcw O (gw ct Z r f5 f6 g f8) i = pcw O (gw ct Z r f5 f6 f7 f8) i :=
  pgw (y := 7) fun i hi h => by rcases (show i < 5 ∨ i = 5 ∨ i = 6 ∨ i = 7 ∨ i = 8 by omega) with c | rfl | rfl | rfl | rfl <;> first | rfl | exact absurd rfl h | rw [gw_c c, gw_c c]
theorem pgw3 : ∀ i, i < 207 → (∀ z, z < 2 → i ≠ (fun z => if z = 0 then 202 else 206) z) → pcw O (gw ct Z r f5 f6 f7 g) i = pcw O (gw ct Z r f5 f6 f7 f8) i :=
  pgw (y := 8) fun i hi h => by rcases (show i < 5 ∨ i = 5 ∨ i = 6 ∨ i = 7 ∨ i = 8 by omega) with c | rfl | rfl | rfl | rfl <;> first | rfl | exact absurd rfl h | rw [gw_c c, gw_c c]
end GWC
theorem tr_left {D : va_G} {ct : Nat → ClassId} {ad af : Nat → Nat} {O : Nat → va_E} {Z Y : Nat → Int32} {r : Int32} {H : Heap} (haf : ∀ k, k < 203 → af k = ad k) (h : fP D 207 af (pcw O (g9 ct Z Y r)) H) : fP D 203 ad (pcw O (lwc ct Z r)) H := fP.of fun z hz => by
  have h1 := h.at (show z < 207 by omega)
  rw [haf z hz] at h1
  by_cases c : z < 198
  · rw [pcl z c] at h1 ⊢; exact h1
  · obtain ⟨j, rfl⟩ : ∃ j, z = 198 + j := ⟨z - 198, by omega⟩
    rw [pz7 j (by omega)] at h1
    rw [pcr (N1 := 5) j (by omega)]
    exact h1
/-- in how many hours it trips -/
theorem ht_at {Z : Nat → Int32} {n b : Nat} : ∀ x, x ≤ 97 → (∀ y, y < x → hsZ Z n y (7 + 5 * b + 1) = nI 1) → htF Z n b 98 0 = htF Z n b (98 - x) x
  | 0, _, _ => rfl
  | x + 1, hx, h => by
    rw [ht_at x (by omega) (fun y hy => h y (by omega)), show 98 - x = (98 - (x + 1)) + 1 by omega]
    show (if x ≤ 96 then (if hsZ Z n x (7 + 5 * b + 1) = nI 1 then htF Z n b (98 - (x + 1)) (x + 1) else nI x) else -1) = _
    rw [if_pos (by omega), if_pos (h x (by omega))]
theorem ht_eq {Z : Nat → Int32} {n b x : Nat} (hx : x ≤ 97) (h : ∀ y, y < x → hsZ Z n y (7 + 5 * b + 1) = nI 1) (hs : x = 97 ∨ ¬ hsZ Z n x (7 + 5 * b + 1) = nI 1) : htF Z n b 98 0 = if x = 97 then -1 else nI x := by
  rw [ht_at x hx h, show 98 - x = (97 - x) + 1 by omega]
  show (if x ≤ 96 then (if hsZ Z n x (7 + 5 * b + 1) = nI 1 then htF Z n b (97 - x) (x + 1) else nI x) else -1) = _
  by_cases c : x = 97
  · rw [if_neg (by omega), if_pos c]
  · rw [if_pos (by omega), if_neg (by rcases hs with q | q; exact absurd q c; exact q), if_neg c]
/-- the bounds that are tried -/
def bdv (hv : Int32) (t j : Nat) : Nat := if t = 999 then 999 - j * loN hv 90 else if j < 2 then t + 1 - j else loN (hv >>> (nI (3 * j) &&& 31)) (t + 1)
def lsb (t v : Nat) : Bool := decide (t = 999) || decide (v < t + 1)
theorem bdv_le {hv : Int32} {t j : Nat} (ht : t ≤ 999) : bdv hv t j ≤ 999 := by
  unfold bdv
  split
  · omega
  · split
    · omega
    · have := loN_lt (v := hv >>> (nI (3 * j) &&& 31)) (n := t + 1) (by omega); omega
theorem lsY_at {Z : Nat → Int32} {b v : Nat} (hb : b < 4) : lsY Z b v (7 + 5 * b + 1) = nI 1 ∧ lsY Z b v (7 + 5 * b + 3) = Z (7 + 5 * b + 3) := by
  unfold lsY pon
  exact ⟨by rw [upd_n (by omega), upd_s], by rw [upd_n (by omega), upd_n (by omega), upd_n (by omega)]⟩
theorem tr_q {Z : Nat → Int32} {n b v h : Nat} (hO : oI Z n) (ho : hOn Z) (hb : b < 4) (hbn : bN Z n h) (hh : h ≤ 9999) (h1 : 10 ≤ v) (h2 : v ≤ 999) : (hsZ (lsY Z b v) n 48 (7 + 5 * b + 3) ≤ Z (7 + 5 * b + 3)) ↔ lwF (lsY Z b v) n b 49 0 = true := by
  have hYO := lsY_oI hO hb h1 h2
  have hYo := lsY_hOn (v := v) ho hb
  obtain ⟨k1, k2⟩ := hs_3t hYO hYo hb (lsY_at (Z := Z) (v := v) hb).1 48
  rw [(lsY_at (Z := Z) (v := v) hb).2] at k1 k2
  rw [lw_48 (oI_zW hYO) hb 49 0 (by omega) (by omega)]
  obtain ⟨x, x1, x2⟩ := hbn.2.2.2 b hb
  by_cases c : hsZ (lsY Z b v) n 48 (7 + 5 * b + 1) = nI 1
  · rw [k1 c]; exact ⟨fun _ => c, fun _ => Int32.le_refl _⟩
  · rw [k2 c, x2, nI_add, nI_leI (by omega) (by omega)]
    exact ⟨fun q => by omega, fun q => absurd q c⟩
theorem tr_ls {Z : Nat → Int32} {n b t v : Nat} (ha : ∀ v, 10 ≤ v → v ≤ t → wTr Z n b v) (hz : ∀ v, t + 1 ≤ v → v ≤ 999 → ¬ wTr Z n b v) (ht : t ≤ 999) (h1 : 10 ≤ v) (h2 : v ≤ 999) : (!lwF (lsY Z b v) n b 49 0) = lsb t v := by
  unfold lsb
  by_cases c : v ≤ t
  · have w : lwF (lsY Z b v) n b 49 0 = false := ha v h1 c
    rw [w, decide_eq_true (show v < t + 1 by omega), Bool.or_true]; rfl
  · have w := hz v (by omega) h2
    have w' : lwF (lsY Z b v) n b 49 0 = true := by unfold wTr at w; simpa using w
    rw [w', decide_eq_false (show ¬ v < t + 1 by omega), decide_eq_false (show ¬ t = 999 by omega)]; rfl
section NWA
variable {p : Program} {l : Launch} {e : Env} {R : Room} {s : State} {m : MethodId} {args : Array Value} {below : List Frame} {meth : Method} {c : Code} {H : Heap} {locs : List Loc} {cells slots : Nat} {Q : State → Prop}
variable {cc : ByteArray} {pc : Nat} {ls : Array Slot} {rest : List Value} {D : va_G} {ct : Nat → ClassId} {N : Nat} {ad ad1 : Nat → Nat} {ce ce' : Nat → va_E} {A0 : Nat → Prop} {H0 : Heap}
theorem lv_isubN (hexec : p.tables.exec = Jvm.exec) (hb : c.code = cc) {a b : Nat} (h : b ≤ a) (hdg : decode cc pc = .ok (.isub, 1)) (k : W p l e R s m args below meth c H locs cells slots Q (F0 m (pc + 1) ls (.int (nI (a - b)) :: rest))) : W p l e R s m args below meth c H locs cells slots Q (F0 m pc ls (.int (nI b) :: .int (nI a) :: rest)) :=
  lv_isub hexec hb hdg (lv_teq (pk_sub h) k)
/-- a method of the object, whose names come first, by other names -/
theorem nw_OAr {ceO ceO' : Nat → va_E} {nL : Nat} {own : String} {y : MethodName} {cy : ByteArray} {maxL : Nat} {ret : Option FieldType} {fr lo : Nat} {As st0 : List Value} {rv : Value} {idx n : Nat} {fs : List Value}
    (hx : p.tables.exec = Jvm.exec) (hb : c.code = cc) (hml : c.maxLocals = nL) (hown : s.vm.findClass own = some m.cls) (htg : ∀ w ∈ wB, w.before args s = true) (hK : va_K D vwCl (fTys ct) s) (hI : fI N ad) (hP : fP D N ad ce H) (hS : va_S A0 H0 H locs) (hA0 : ∀ i, i < N → A0 (ad i)) (hl : ls.size = nL)
    (hN : 198 ≤ N) (had : ∀ z, z < 198 → ad1 z = ad z) (hce : ∀ z, z < 198 → ce z = ceO z) (he : ∀ z, z < 198 → ce' z = ceO' z) (ho : ∀ i, i < N → 198 ≤ i → ce' i = ce i)
    (hM : FMet l y cy maxL ret fr lo D ct 198 ad1 (.ref (ad1 0) :: As) ceO (some rv) ceO') (hcw : cwf own idx RX5 y cy maxL ret n) (h0 : ceO 0 = .inr (5, fs))
    (hst : st0 = As.reverse ++ .ref (ad1 0) :: rest) (hn : As.length = n) (hR : fr + 1 ≤ R.frames ∧ 8 + (maxL + 11) + lo ≤ R.locals) (hroom : (rest.map fun v => v.category).sum ≤ 8) (hdg : decode cc pc = .ok (.invokevirtual idx, 3)) (hf : cells ≤ R.cells ∧ slots ≤ R.slots)
    (kk : ∀ (H1 : Heap) (locs1 : List Loc), fP D N ad ce' H1 → va_S A0 H0 H1 locs1 → W p l e R s m args below meth c H1 locs1 cells slots Q (F0 m (pc + 3) ls (rv :: rest))) : W p l e R s m args below meth c H locs cells slots Q (F0 m pc ls st0) :=
  fc_V (N1 := 198) (ad1 := ad1) (k0 := 0) hx hb hml hown htg hK hS hl (fun i j hi hj e9 => by rw [had i hi, had j hj] at e9; exact hI i j (by omega) (by omega) e9) (fP.of fun z hz => by have h := hP.at (show z < N by omega); rw [hce z hz, ← had z hz] at h; exact h) (fun q9 ⟨i9, h9, e9⟩ => by rw [e9, had i9 h9]; exact hA0 _ (by omega)) hM hcw (by omega) h0 (ci := 5) rfl rfl hst hn hR hroom hdg hf (fun H1 l1 h1 hk _ h4 => kk H1 l1 (fP.of fun i hi => by
    by_cases c : i < 198
    · rw [he i c, ← had i c]; exact h1.at c
    · rw [ho i hi (by omega)]; exact (hP.at hi).kept (hk _ (hP.lt hi) (fun ⟨z, hz, e9⟩ => c (by rw [had z hz] at e9; have := hI _ _ hi (by omega) e9; omega)))) h4)
end NWA
theorem lG_ls {r : Int32} {Z : Nat → Int32} {n b v : Nat} (hg : lG r Z n) (hb : b < 4) (hv : v < 2147483648) : lG r (lsY Z b v) n :=
  lG_of hg (lsY_zW hg.1 hb hv) (fun z _ hz => by
    unfold lsY pon
    rw [upd_n (by rcases hz with h | h | ⟨k, hk, h | h⟩ <;> omega), upd_n (by rcases hz with h | h | ⟨k, hk, h | h⟩ <;> omega), upd_n (by rcases hz with h | h | ⟨k, hk, h | h⟩ <;> omega)])
theorem lsY_bN {Z : Nat → Int32} {n h b v : Nat} (hbn : bN Z n h) (hb : b < 4) : bN (lsY Z b v) n h :=
  bN_upd (bN_upd (bN_upd hbn (by omega) (by omega) (fun _ _ => by omega) (fun _ _ => by omega)) (by omega) (by omega) (fun _ _ => by omega) (fun _ _ => by omega)) (by omega) (by omega) (fun _ _ => by omega) (fun _ _ => by omega)
set_option maxRecDepth 100000 in
set_option maxHeartbeats 8000000 in
theorem mL_trips (l : Launch) (D : va_G) (ct : Nat → ClassId) (ad : Nat → Nat) (O : Nat → va_E) (Z : Nat → Int32) (r hv : Int32) (n bk : Nat) (hOS : OS ct ad O Z n) (hri : rI Z n) (hg : lG r Z n) (hb4 : bk < 4) : ∃ O', (∀ sz, NMet l yL_trips cL_trips 17 (some .boolean) 6 133 4 107 D ct 203 ad sz [.ref (ad 0), .ref (ad 198), .ref (ad 199), .ref (ad 200), .ref (ad 201), .ref (ad 202), .int (nI bk), .int hv] (pcw O (lwc ct Z r)) (some (.int (nI 1))) (pcw O' (lwc ct Z r))) ∧ OS ct ad O' Z n := by
  have hO := hri.1
  have ho := hri.2.1
  have hn10 := hg.1.1
  obtain ⟨h9, hh9, hb9⟩ := hri.2.2.2
  obtain ⟨fs1, h01⟩ := hOS.h5
  obtain ⟨O1, hM1, hOS1⟩ := os_tripsIn (l := l) (D := D) (b := bk) hOS hri hb4
  obtain ⟨fs2, h02⟩ := hOS1.h5
  obtain ⟨t, ht1, ht2, ht3, ht4, O2, hM2, hOS2⟩ := os_leastBound (l := l) (D := D) (b := bk) hOS1 hri hb4
  have hZs : ∀ y, y ≤ 97 → oI (hsZ Z n y) n ∧ hOn (hsZ Z n y) ∧ lG r (hsZ Z n y) n := fun y hy => lG_hs hg hO ho hb9 (by omega)
  refine ⟨O2, fun sz => ?_, hOS2⟩
  refine NMet.of (by decide +kernel) (Nat.le_of_ble_eq_true rfl) ?_
  intro p e s m args below meth c ls hx hb hr hml hown hlocks htg hK hI hP hS hsz hl
  have hl : lv_has ls 17 [(0, .ref (ad 0)), (1, .ref (ad 198)), (2, .ref (ad 199)), (3, .ref (ad 200)), (4, .ref (ad 201)), (5, .ref (ad 202)), (6, .int (nI bk)), (7, .int hv)] := hl
  have hI3 := hI
  have hA : ∀ q : Nat, s.heap.size ≤ q → nF 203 ad sz q := fun q h => Or.inr (by omega)
  have hA0 : ∀ k, k < 203 → nF 203 ad sz (ad k) := fun k h => Or.inl (fA_in h)
  refine lv_bipush (v := nI 60) hx hb dL_trips_0 (by decide) ?_
  refine rn_newa (atype := .int) (ty := .int) (k0 := 0) (n := 60) (a0 := (60, .inl (fun _ => 0))) hx hb htg hK hI hP hA0 hS hA ac_i rfl rfl (fun _ => rfl) (by decide) (Nat.le_of_ble_eq_true rfl) ⟨Nat.le_of_ble_eq_true rfl, Nat.le_of_ble_eq_true rfl⟩ dL_trips_2 (fun q1 H hP hI hA0 hS => ?_)
  obtain ⟨am1, ee1⟩ : ∃ z9, adS ad 203 q1 = z9 := ⟨_, rfl⟩
  have qe1 : q1 = am1 203 := by rw [← ee1]; exact adS_at.symm
  have hs1 : ∀ k, k < 203 → am1 k = ad k := fun k hk => by rw [← ee1]; exact adS_lt hk
  rw [ee1] at hP hI hA0
  rw [qe1]
  refine lv_astore (lv' := [(8, .ref (am1 203)), (0, .ref (ad 0)), (1, .ref (ad 198)), (2, .ref (ad 199)), (3, .ref (ad 200)), (4, .ref (ad 201)), (5, .ref (ad 202)), (6, .int (nI bk)), (7, .int hv)]) hx hb dL_trips_4 hl (by decide) rfl (fun ls hl => ?_)
  refine lv_bipush (v := nI 20) hx hb dL_trips_6 (by decide) ?_
  refine rn_newa (atype := .int) (ty := .int) (k0 := 0) (n := 20) (a0 := (20, .inl (fun _ => 0))) hx hb htg hK hI hP hA0 hS hA ac_i rfl rfl (fun _ => rfl) (by decide) (Nat.le_of_ble_eq_true rfl) ⟨Nat.le_of_ble_eq_true rfl, Nat.le_of_ble_eq_true rfl⟩ dL_trips_8 (fun q2 H hP hI hA0 hS => ?_)
  obtain ⟨am2, ee2⟩ : ∃ z9, adS am1 204 q2 = z9 := ⟨_, rfl⟩
  have qe2 : q2 = am2 204 := by rw [← ee2]; exact adS_at.symm
  have hs2 : ∀ k, k < 204 → am2 k = am1 k := fun k hk => by rw [← ee2]; exact adS_lt hk
  rw [ee2] at hP hI hA0
  rw [qe2]
  refine lv_astore (lv' := [(9, .ref (am2 204)), (8, .ref (am1 203)), (0, .ref (ad 0)), (1, .ref (ad 198)), (2, .ref (ad 199)), (3, .ref (ad 200)), (4, .ref (ad 201)), (5, .ref (ad 202)), (6, .int (nI bk)), (7, .int hv)]) hx hb dL_trips_10 hl (by decide) rfl (fun ls hl => ?_)
  refine lv_bipush (v := nI 20) hx hb dL_trips_12 (by decide) ?_
  refine rn_newa (atype := .int) (ty := .int) (k0 := 0) (n := 20) (a0 := (20, .inl (fun _ => 0))) hx hb htg hK hI hP hA0 hS hA ac_i rfl rfl (fun _ => rfl) (by decide) (Nat.le_of_ble_eq_true rfl) ⟨Nat.le_of_ble_eq_true rfl, Nat.le_of_ble_eq_true rfl⟩ dL_trips_14 (fun q3 H hP hI hA0 hS => ?_)
  obtain ⟨am3, ee3⟩ : ∃ z9, adS am2 205 q3 = z9 := ⟨_, rfl⟩
  have qe3 : q3 = am3 205 := by rw [← ee3]; exact adS_at.symm
  have hs3 : ∀ k, k < 205 → am3 k = am2 k := fun k hk => by rw [← ee3]; exact adS_lt hk
  rw [ee3] at hP hI hA0
  rw [qe3]
  refine lv_astore (lv' := [(10, .ref (am3 205)), (9, .ref (am2 204)), (8, .ref (am1 203)), (0, .ref (ad 0)), (1, .ref (ad 198)), (2, .ref (ad 199)), (3, .ref (ad 200)), (4, .ref (ad 201)), (5, .ref (ad 202)), (6, .int (nI bk)), (7, .int hv)]) hx hb dL_trips_16 hl (by decide) rfl (fun ls hl => ?_)
  refine lv_bipush (v := nI 7) hx hb dL_trips_18 (by decide) ?_
  refine rn_newa (atype := .int) (ty := .int) (k0 := 0) (n := 7) (a0 := (7, .inl (fun _ => 0))) hx hb htg hK hI hP hA0 hS hA ac_i rfl rfl (fun _ => rfl) (by decide) (Nat.le_of_ble_eq_true rfl) ⟨Nat.le_of_ble_eq_true rfl, Nat.le_of_ble_eq_true rfl⟩ dL_trips_20 (fun q4 H hP hI hA0 hS => ?_)
  obtain ⟨af, ee4⟩ : ∃ z9, adS am3 206 q4 = z9 := ⟨_, rfl⟩
  have qe4 : q4 = af 206 := by rw [← ee4]; exact adS_at.symm
  have hs4 : ∀ k, k < 206 → af k = am3 k := fun k hk => by rw [← ee4]; exact adS_lt hk
  rw [ee4] at hP hI hA0
  rw [qe4]
  refine lv_astore (lv' := [(11, .ref (af 206)), (10, .ref (am3 205)), (9, .ref (am2 204)), (8, .ref (am1 203)), (0, .ref (ad 0)), (1, .ref (ad 198)), (2, .ref (ad 199)), (3, .ref (ad 200)), (4, .ref (ad 201)), (5, .ref (ad 202)), (6, .int (nI bk)), (7, .int hv)]) hx hb dL_trips_22 hl (by decide) rfl (fun ls hl => ?_)
  have haf : ∀ k, k < 203 → af k = ad k := fun k hk => by rw [hs4 k (by omega), hs3 k (by omega), hs2 k (by omega), hs1 k hk]
  have had : ∀ k, k < 198 → ad k = af k := fun k hk => (haf k (by omega)).symm
  have g5 : am1 203 = af 203 := by rw [hs4 203 (by omega), hs3 203 (by omega), hs2 203 (by omega)]
  have g6 : am2 204 = af 204 := by rw [hs4 204 (by omega), hs3 204 (by omega)]
  have g7 : am3 205 = af 205 := by rw [hs4 205 (by omega)]
  rw [g5, g6, g7, ← haf 198 (by omega), ← haf 199 (by omega), ← haf 200 (by omega), ← haf 201 (by omega), ← haf 202 (by omega)] at hl
  have hl : lv_has ls 17 [(11, .ref (af 206)), (10, .ref (af 205)), (9, .ref (af 204)), (8, .ref (af 203)), (0, .ref (ad 0)), (1, .ref (af 198)), (2, .ref (af 199)), (3, .ref (af 200)), (4, .ref (af 201)), (5, .ref (af 202)), (6, .int (nI bk)), (7, .int hv)] := hl
  have hP : fP D 207 af (pcw O (gw ct Z r (fun _ => 0) (fun _ => 0) (fun _ => 0) (fun _ => 0))) H := hP.ext (fun i hi => by
    rcases (show i < 203 ∨ i = 203 ∨ i = 204 ∨ i = 205 ∨ i = 206 by omega) with c | rfl | rfl | rfl | rfl
    · rw [va_up_ne _ _ (by omega), va_up_ne _ _ (by omega), va_up_ne _ _ (by omega), va_up_ne _ _ (by omega)]
      by_cases c2 : i < 198
      · rw [pcl i c2, pcl i c2]
      · obtain ⟨j, rfl⟩ : ∃ j, i = 198 + j := ⟨i - 198, by omega⟩
        rw [pcr (N1 := 5) j (by omega), pcr (N1 := 9) j (by omega), gw_c (by omega)]
    all_goals rfl)
  refine lv_aload_n hx hb dL_trips_24 rfl (lv_at hl 5 rfl) ?_
  refine lv_aload hx hb dL_trips_25 (lv_at hl 3 rfl) ?_
  refine nw_S0 (N1 := 2) (nm := fun z => if z = 0 then 198 else 203) (ce1 := cp2 ct 60 (vwA Z) (fun _ => 0)) (ce1' := cp2 ct 60 (vwA Z) (vwA Z)) (ce' := pcw O (gw ct Z r (vwA Z) (fun _ => 0) (fun _ => 0) (fun _ => 0))) (As := [.ref (af 198), .ref (af 203)]) (rest := []) hx hb hml hown htg hK hI hP hS hA0 hl.1 (fun z hz => by show (if z = 0 then _ else _) < 207; split <;> omega) (fun i9 j9 hi hj h => by have h : (if i9 = 0 then 198 else 203) = (if j9 = 0 then 198 else 203) := h; split at h <;> split at h <;> omega) (fun z hz => by rcases (show z = 0 ∨ z = 1 by omega) with rfl | rfl <;> rfl) (fun z hz => by rcases (show z = 0 ∨ z = 1 by omega) with rfl | rfl <;> rfl) (pgw0) (mL_copy l D ct _ 60 (vwA Z) (fun _ => 0) (by omega)) cw_L_50 rfl rfl ⟨Nat.le_of_ble_eq_true rfl, Nat.le_of_ble_eq_true rfl⟩ (Nat.le_of_ble_eq_true rfl) dL_trips_27 ⟨(show 4 ≤ 4 by omega), (show 107 ≤ 107 by omega)⟩ (fun H locs hP hS => ?_)
  refine lv_aload_n hx hb dL_trips_30 rfl (lv_at hl 6 rfl) ?_
  refine lv_aload hx hb dL_trips_31 (lv_at hl 2 rfl) ?_
  refine nw_S0 (N1 := 2) (nm := fun z => if z = 0 then 199 else 204) (ce1 := cp2 ct 20 (vwM Z) (fun _ => 0)) (ce1' := cp2 ct 20 (vwM Z) (vwM Z)) (ce' := pcw O (gw ct Z r (vwA Z) (vwM Z) (fun _ => 0) (fun _ => 0))) (As := [.ref (af 199), .ref (af 204)]) (rest := []) hx hb hml hown htg hK hI hP hS hA0 hl.1 (fun z hz => by show (if z = 0 then _ else _) < 207; split <;> omega) (fun i9 j9 hi hj h => by have h : (if i9 = 0 then 199 else 204) = (if j9 = 0 then 199 else 204) := h; split at h <;> split at h <;> omega) (fun z hz => by rcases (show z = 0 ∨ z = 1 by omega) with rfl | rfl <;> rfl) (fun z hz => by rcases (show z = 0 ∨ z = 1 by omega) with rfl | rfl <;> rfl) (pgw1) (mL_copy l D ct _ 20 (vwM Z) (fun _ => 0) (by omega)) cw_L_50 rfl rfl ⟨Nat.le_of_ble_eq_true rfl, Nat.le_of_ble_eq_true rfl⟩ (Nat.le_of_ble_eq_true rfl) dL_trips_33 ⟨(show 4 ≤ 4 by omega), (show 107 ≤ 107 by omega)⟩ (fun H locs hP hS => ?_)
  refine lv_aload_n hx hb dL_trips_36 rfl (lv_at hl 7 rfl) ?_
  refine lv_aload hx hb dL_trips_37 (lv_at hl 1 rfl) ?_
  refine nw_S0 (N1 := 2) (nm := fun z => if z = 0 then 200 else 205) (ce1 := cp2 ct 20 (vwB Z) (fun _ => 0)) (ce1' := cp2 ct 20 (vwB Z) (vwB Z)) (ce' := pcw O (gw ct Z r (vwA Z) (vwM Z) (vwB Z) (fun _ => 0))) (As := [.ref (af 200), .ref (af 205)]) (rest := []) hx hb hml hown htg hK hI hP hS hA0 hl.1 (fun z hz => by show (if z = 0 then _ else _) < 207; split <;> omega) (fun i9 j9 hi hj h => by have h : (if i9 = 0 then 200 else 205) = (if j9 = 0 then 200 else 205) := h; split at h <;> split at h <;> omega) (fun z hz => by rcases (show z = 0 ∨ z = 1 by omega) with rfl | rfl <;> rfl) (fun z hz => by rcases (show z = 0 ∨ z = 1 by omega) with rfl | rfl <;> rfl) (pgw2) (mL_copy l D ct _ 20 (vwB Z) (fun _ => 0) (by omega)) cw_L_50 rfl rfl ⟨Nat.le_of_ble_eq_true rfl, Nat.le_of_ble_eq_true rfl⟩ (Nat.le_of_ble_eq_true rfl) dL_trips_39 ⟨(show 4 ≤ 4 by omega), (show 107 ≤ 107 by omega)⟩ (fun H locs hP hS => ?_)
  refine lv_aload hx hb dL_trips_42 (lv_at hl 9 rfl) ?_
  refine lv_aload hx hb dL_trips_44 (lv_at hl 0 rfl) ?_
  refine nw_S0 (N1 := 2) (nm := fun z => if z = 0 then 202 else 206) (ce1 := cp2 ct 7 (vwT Z) (fun _ => 0)) (ce1' := cp2 ct 7 (vwT Z) (vwT Z)) (ce' := pcw O (gw ct Z r (vwA Z) (vwM Z) (vwB Z) (vwT Z))) (As := [.ref (af 202), .ref (af 206)]) (rest := []) hx hb hml hown htg hK hI hP hS hA0 hl.1 (fun z hz => by show (if z = 0 then _ else _) < 207; split <;> omega) (fun i9 j9 hi hj h => by have h : (if i9 = 0 then 202 else 206) = (if j9 = 0 then 202 else 206) := h; split at h <;> split at h <;> omega) (fun z hz => by rcases (show z = 0 ∨ z = 1 by omega) with rfl | rfl <;> rfl) (fun z hz => by rcases (show z = 0 ∨ z = 1 by omega) with rfl | rfl <;> rfl) (pgw3) (mL_copy l D ct _ 7 (vwT Z) (fun _ => 0) (by omega)) cw_L_50 rfl rfl ⟨Nat.le_of_ble_eq_true rfl, Nat.le_of_ble_eq_true rfl⟩ (Nat.le_of_ble_eq_true rfl) dL_trips_46 ⟨(show 4 ≤ 4 by omega), (show 107 ≤ 107 by omega)⟩ (fun H locs hP hS => ?_)
  have hP : fP D 207 af (pcw O (g9 ct Z Z r)) H := hP
  refine lv_iconst (v := nI 0) hx hb dL_trips_49 (by decide) ?_
  refine lv_istore (lv' := [(12, .int (nI 0)), (11, .ref (af 206)), (10, .ref (af 205)), (9, .ref (af 204)), (8, .ref (af 203)), (0, .ref (ad 0)), (1, .ref (af 198)), (2, .ref (af 199)), (3, .ref (af 200)), (4, .ref (af 201)), (5, .ref (af 202)), (6, .int (nI bk)), (7, .int (hv))]) hx hb dL_trips_50 hl (by decide) rfl (fun ls hl => ?_)
  suffices hJ92 : ∀ (x : Nat), x ≤ 97 → (∀ y, y < x → hsZ Z n y (7 + 5 * bk + 1) = nI 1) → (x = 97 ∨ ¬ hsZ Z n x (7 + 5 * bk + 1) = nI 1) → ∀ (H : Heap) (locs : List Loc) (ls : Array Slot), fP D 207 af (pcw O (g9 ct Z (hsZ Z n x) r)) H → va_S (nF 203 ad sz) s.heap H locs → lv_has ls 17 [(12, .int (nI x)), (11, .ref (af 206)), (10, .ref (af 205)), (9, .ref (af 204)), (8, .ref (af 203)), (0, .ref (ad 0)), (1, .ref (af 198)), (2, .ref (af 199)), (3, .ref (af 200)), (4, .ref (af 201)), (5, .ref (af 202)), (6, .int (nI bk)), (7, .int (hv))] → W p l e ({ frames := 6, cells := 4, slots := 107, locals := 133 }) s m args below meth c H locs (4) (107) (MQ below (nQ D ct 203 ad sz (some (.int (nI 1))) (pcw O2 (lwc ct Z r))) args s 4 107 (nF 203 ad sz)) (F0 m 92 ls []) by
    have lp52 : ∀ (fu52 : Nat) (x : Nat), x ≤ 97 → (∀ y, y < x → hsZ Z n y (7 + 5 * bk + 1) = nI 1) → 97 - x < fu52 → ∀ (H : Heap) (locs : List Loc), fP D 207 af (pcw O (g9 ct Z (hsZ Z n x) r)) H → va_S (nF 203 ad sz) s.heap H locs → ∀ (ls : Array Slot), lv_has ls 17 [(12, .int (nI x)), (11, .ref (af 206)), (10, .ref (af 205)), (9, .ref (af 204)), (8, .ref (af 203)), (0, .ref (ad 0)), (1, .ref (af 198)), (2, .ref (af 199)), (3, .ref (af 200)), (4, .ref (af 201)), (5, .ref (af 202)), (6, .int (nI bk)), (7, .int (hv))] → W p l e ({ frames := 6, cells := 4, slots := 107, locals := 133 }) s m args below meth c H locs (4) (107) (MQ below (nQ D ct 203 ad sz (some (.int (nI 1))) (pcw O2 (lwc ct Z r))) args s 4 107 (nF 203 ad sz)) (F0 m 52 ls []) := by
      intro fu52
      induction fu52 with
      | zero => intro x hx97 hpv hfu52; exact absurd hfu52 (Nat.not_lt_zero _)
      | succ fu52 ih52 =>
        intro x hx97 hpv hfu52 H locs hP hS ls hl
        refine lv_iload hx hb dL_trips_52 (lv_at hl 0 rfl) ?_
        refine lv_bipush (v := nI 97) hx hb dL_trips_54 (by decide) ?_
        refine lv_icmp_geN (tgt := 92) hx hb (by omega) (by omega) dL_trips_56 (by decide) (fun c56 => ?_) (fun c56 => ?_)
        · have hl := lv_sub (l' := [(12, .int (nI x)), (11, .ref (af 206)), (10, .ref (af 205)), (9, .ref (af 204)), (8, .ref (af 203)), (0, .ref (ad 0)), (1, .ref (af 198)), (2, .ref (af 199)), (3, .ref (af 200)), (4, .ref (af 201)), (5, .ref (af 202)), (6, .int (nI bk)), (7, .int (hv))]) hl [0, 1, 2, 3, 4, 5, 6, 7, 8, 9, 10, 11, 12] rfl
          exact hJ92 x hx97 hpv (Or.inl (by omega)) _ _ _ hP hS hl
        · refine lv_aload hx hb dL_trips_59 (lv_at hl 2 rfl) ?_
          refine lv_iconst (v := nI 5) hx hb dL_trips_61 (by decide) ?_
          refine lv_iload hx hb dL_trips_62 (lv_at hl 11 rfl) ?_
          refine lv_imulN hx hb dL_trips_64 ?_
          refine lv_iconst (v := nI 1) hx hb dL_trips_65 (by decide) ?_
          refine lv_iaddN hx hb dL_trips_66 ?_
          refine fr_iald (k := 205) (f := vwB (hsZ Z n x)) hx hb hK hP (by decide) rfl (by omega) (by decide) dL_trips_67 ?_
          refine lv_teq (vwB_at (by omega) (by omega)) ?_
          refine lv_iconst (v := nI 1) hx hb dL_trips_68 (by decide) ?_
          refine lv_icmp_ne (tgt := 92) hx hb dL_trips_69 (by decide) (fun c69 => ?_) (fun c69 => ?_)
          · have hl := lv_sub (l' := [(12, .int (nI x)), (11, .ref (af 206)), (10, .ref (af 205)), (9, .ref (af 204)), (8, .ref (af 203)), (0, .ref (ad 0)), (1, .ref (af 198)), (2, .ref (af 199)), (3, .ref (af 200)), (4, .ref (af 201)), (5, .ref (af 202)), (6, .int (nI bk)), (7, .int (hv))]) hl [0, 1, 2, 3, 4, 5, 6, 7, 8, 9, 10, 11, 12] rfl
            exact hJ92 x hx97 hpv (Or.inr c69) _ _ _ hP hS hl
          · refine lv_aload hx hb dL_trips_72 (lv_at hl 4 rfl) ?_
            refine lv_aload hx hb dL_trips_74 (lv_at hl 3 rfl) ?_
            refine lv_aload hx hb dL_trips_76 (lv_at hl 2 rfl) ?_
            refine lv_aload hx hb dL_trips_78 (lv_at hl 9 rfl) ?_
            refine lv_aload hx hb dL_trips_80 (lv_at hl 1 rfl) ?_
            refine nw_Sr (N1 := 5) (nm := (fun z => 198 + nmY z)) (ce1 := lwc ct (hsZ Z n x) r) (ce1' := lwc ct (hrZ (hsZ Z n x) n) r) (ce' := pcw O (g9 ct Z (hrZ (hsZ Z n x) n) r)) (As := [.ref (af 203), .ref (af 204), .ref (af 205), .ref (af 201), .ref (af 206)]) (rest := []) hx hb hml hown htg hK hI hP hS hA0 hl.1 y207 y_inj7 py7 py7 pyo7 (mL_hour l D ct (fun z => af ((fun z => 198 + nmY z) z)) (hsZ Z n x) r n ((hZs x (by omega)).1) ((hZs x (by omega)).2.1) ((hZs x (by omega)).2.2)) cw_L_54 rfl rfl ⟨Nat.le_of_ble_eq_true rfl, Nat.le_of_ble_eq_true rfl⟩ (Nat.le_of_ble_eq_true rfl) dL_trips_82 ⟨(show 4 ≤ 4 by omega), (show 107 ≤ 107 by omega)⟩ (fun H locs hP hS => ?_)
            refine lv_pop hx hb dL_trips_85 rfl ?_
            refine lv_iinc (v := nI (x + 1)) (lv' := [(12, .int (nI (x + 1))), (11, .ref (af 206)), (10, .ref (af 205)), (9, .ref (af 204)), (8, .ref (af 203)), (0, .ref (ad 0)), (1, .ref (af 198)), (2, .ref (af 199)), (3, .ref (af 200)), (4, .ref (af 201)), (5, .ref (af 202)), (6, .int (nI bk)), (7, .int (hv))]) hx hb dL_trips_86 hl (k := 0) rfl (nI_add x 1) (by decide) rfl (fun ls hl => ?_)
            refine lv_goto (tgt := 52) hx hb dL_trips_89 (by decide) ?_
            have hl := lv_sub (l' := [(12, .int (nI (x + 1))), (11, .ref (af 206)), (10, .ref (af 205)), (9, .ref (af 204)), (8, .ref (af 203)), (0, .ref (ad 0)), (1, .ref (af 198)), (2, .ref (af 199)), (3, .ref (af 200)), (4, .ref (af 201)), (5, .ref (af 202)), (6, .int (nI bk)), (7, .int (hv))]) hl [0, 1, 2, 3, 4, 5, 6, 7, 8, 9, 10, 11, 12] rfl
            have hP := fP.eqc (congrArg (fun v9 => pcw O (g9 ct Z v9 r)) (show (hrZ (hsZ Z n x) n) = (hsZ Z n (x + 1)) from by rfl)) hP
            exact ih52 (x + 1) (by omega) (fun y hy => (Nat.lt_or_eq_of_le (Nat.lt_succ_iff.mp hy)).elim (fun q => hpv y q) (fun q => by rw [q]; exact c69)) (by omega) _ _ hP hS _ hl
    have hl := lv_sub (l' := [(12, .int (nI 0)), (11, .ref (af 206)), (10, .ref (af 205)), (9, .ref (af 204)), (8, .ref (af 203)), (0, .ref (ad 0)), (1, .ref (af 198)), (2, .ref (af 199)), (3, .ref (af 200)), (4, .ref (af 201)), (5, .ref (af 202)), (6, .int (nI bk)), (7, .int (hv))]) hl [0, 1, 2, 3, 4, 5, 6, 7, 8, 9, 10, 11, 12] rfl
    have hP := fP.eqc (congrArg (fun v9 => pcw O (g9 ct Z v9 r)) (show Z = (hsZ Z n 0) from by rfl)) hP
    exact lp52 (97 - 0 + 1) 0 (by omega) (fun y hy => absurd hy (Nat.not_lt_zero _)) (Nat.lt_succ_self _) _ _ hP hS _ hl
  intro x hx97 hpv hst9 H locs ls hP hS hl
  refine lv_aload_n hx hb dL_trips_92 rfl (lv_at hl 5 rfl) ?_
  refine lv_iload hx hb dL_trips_93 (lv_at hl 11 rfl) ?_
  refine nw_OAr (ad1 := ad) (ceO := O) (ceO' := O1) (ce' := pcw O1 (g9 ct Z (hsZ Z n x) r)) (As := [.int (nI bk)]) (rest := []) hx hb hml hown htg hK hI hP hS hA0 hl.1 (by decide) had pcl pcl pch hM1 cw_L_78 h01 rfl rfl ⟨Nat.le_of_ble_eq_true rfl, Nat.le_of_ble_eq_true rfl⟩ (Nat.le_of_ble_eq_true rfl) dL_trips_95 ⟨(show 4 ≤ 4 by omega), (show 107 ≤ 107 by omega)⟩ (fun H locs hP hS => ?_)
  refine lv_iload hx hb dL_trips_98 (lv_at hl 0 rfl) ?_
  refine lv_bipush (v := nI 97) hx hb dL_trips_100 (by decide) ?_
  suffices hJ111 : W p l e ({ frames := 6, cells := 4, slots := 107, locals := 133 }) s m args below meth c H locs (4) (107) (MQ below (nQ D ct 203 ad sz (some (.int (nI 1))) (pcw O2 (lwc ct Z r))) args s 4 107 (nF 203 ad sz)) (F0 m 111 ls [.int (if x = 97 then -1 else nI x), .int (htF Z n bk 98 0)]) by
    refine lv_icmp_neN (tgt := 109) hx hb (by omega) (by omega) dL_trips_102 (by decide) (fun c102 => ?_) (fun c102 => ?_)
    · refine lv_iload hx hb dL_trips_109 (lv_at hl 0 rfl) ?_
      exact lv_tveq (show Value.int (nI x) = Value.int (if x = 97 then -1 else nI x) from by exact congrArg Value.int (if_neg c102).symm) hJ111
    · refine lv_iconst (v := -1) hx hb dL_trips_105 (by decide) ?_
      refine lv_goto (tgt := 111) hx hb dL_trips_106 (by decide) ?_
      exact lv_tveq (show Value.int (-1) = Value.int (if x = 97 then -1 else nI x) from by exact congrArg Value.int (if_pos c102).symm) hJ111
  refine lv_icmp_eq (tgt := 116) hx hb dL_trips_111 (by decide) (fun _ => ?_) (fun h => absurd (ht_eq hx97 hpv hst9) h)
  refine lv_aload_n hx hb dL_trips_116 rfl (lv_at hl 5 rfl) ?_
  refine lv_iload hx hb dL_trips_117 (lv_at hl 11 rfl) ?_
  refine nw_OAr (ad1 := ad) (ceO := O1) (ceO' := O2) (ce' := pcw O2 (g9 ct Z (hsZ Z n x) r)) (As := [.int (nI bk)]) (rest := []) hx hb hml hown htg hK hI hP hS hA0 hl.1 (by decide) had pcl pcl pch hM2 cw_L_81 h02 rfl rfl ⟨Nat.le_of_ble_eq_true rfl, Nat.le_of_ble_eq_true rfl⟩ (Nat.le_of_ble_eq_true rfl) dL_trips_119 ⟨(show 4 ≤ 4 by omega), (show 107 ≤ 107 by omega)⟩ (fun H locs hP hS => ?_)
  refine lv_istore (lv' := [(13, .int (if t = 999 then -1 else nI (t + 1))), (12, .int (nI x)), (11, .ref (af 206)), (10, .ref (af 205)), (9, .ref (af 204)), (8, .ref (af 203)), (0, .ref (ad 0)), (1, .ref (af 198)), (2, .ref (af 199)), (3, .ref (af 200)), (4, .ref (af 201)), (5, .ref (af 202)), (6, .int (nI bk)), (7, .int (hv))]) hx hb dL_trips_122 hl (by decide) rfl (fun ls hl => ?_)
  refine lv_iconst (v := nI 0) hx hb dL_trips_124 (by decide) ?_
  refine lv_istore (lv' := [(14, .int (nI 0)), (13, .int (if t = 999 then -1 else nI (t + 1))), (12, .int (nI x)), (11, .ref (af 206)), (10, .ref (af 205)), (9, .ref (af 204)), (8, .ref (af 203)), (0, .ref (ad 0)), (1, .ref (af 198)), (2, .ref (af 199)), (3, .ref (af 200)), (4, .ref (af 201)), (5, .ref (af 202)), (6, .int (nI bk)), (7, .int (hv))]) hx hb dL_trips_125 hl (by decide) rfl (fun ls hl => ?_)
  have lp127 : ∀ (fu127 : Nat) (j : Nat) (Y : Nat → Int32), j ≤ 6 → 6 - j < fu127 → ∀ (H : Heap) (locs : List Loc), fP D 207 af (pcw O2 (g9 ct Z Y r)) H → va_S (nF 203 ad sz) s.heap H locs → ∀ (ls : Array Slot), lv_has ls 17 [(14, .int (nI j)), (13, .int (if t = 999 then -1 else nI (t + 1))), (12, .int (nI x)), (11, .ref (af 206)), (10, .ref (af 205)), (9, .ref (af 204)), (8, .ref (af 203)), (0, .ref (ad 0)), (1, .ref (af 198)), (2, .ref (af 199)), (3, .ref (af 200)), (4, .ref (af 201)), (5, .ref (af 202)), (6, .int (nI bk)), (7, .int (hv))] → W p l e ({ frames := 6, cells := 4, slots := 107, locals := 133 }) s m args below meth c H locs (4) (107) (MQ below (nQ D ct 203 ad sz (some (.int (nI 1))) (pcw O2 (lwc ct Z r))) args s 4 107 (nF 203 ad sz)) (F0 m 127 ls []) := by
    intro fu127
    induction fu127 with
    | zero => intro j Y hj hfu127; exact absurd hfu127 (Nat.not_lt_zero _)
    | succ fu127 ih127 =>
      intro j Y hj hfu127 H locs hP hS ls hl
      refine lv_iload hx hb dL_trips_127 (lv_at hl 0 rfl) ?_
      refine lv_bipush (v := nI 6) hx hb dL_trips_129 (by decide) ?_
      refine lv_icmp_geN (tgt := 332) hx hb (by omega) (by omega) dL_trips_131 (by decide) (fun c131 => ?_) (fun c131 => ?_)
      · refine lv_iconst (v := nI 1) hx hb dL_trips_332 (by decide) ?_
        exact nw_iret hx hb hr hlocks hK hI3 hS rfl dL_trips_333 rfl (tr_left haf hP)
      · refine lv_iload hx hb dL_trips_134 (lv_at hl 1 rfl) ?_
        suffices hJ182 : ∀ (H : Heap) (locs : List Loc), fP D 207 af (pcw O2 (g9 ct Z Y r)) H → va_S (nF 203 ad sz) s.heap H locs → W p l e ({ frames := 6, cells := 4, slots := 107, locals := 133 }) s m args below meth c H locs (4) (107) (MQ below (nQ D ct 203 ad sz (some (.int (nI 1))) (pcw O2 (lwc ct Z r))) args s 4 107 (nF 203 ad sz)) (F0 m 182 ls [.int (nI (bdv hv t j))]) by
          refine lv_ifgeR (tgt := 156) hx hb dL_trips_136 (by decide) (fun c136 => ?_) (fun c136 => ?_)
          · have ht9 : ¬ t = 999 := fun q => by rw [if_pos q] at c136; exact absurd c136 (by decide)
            refine lv_iload hx hb dL_trips_156 (lv_at hl 0 rfl) ?_
            refine lv_iconst (v := nI 2) hx hb dL_trips_158 (by decide) ?_
            refine lv_icmp_geN (tgt := 170) hx hb (by omega) (by omega) dL_trips_159 (by decide) (fun c159 => ?_) (fun c159 => ?_)
            · refine lv_iload hx hb dL_trips_170 (lv_at hl 14 rfl) ?_
              refine lv_iconst (v := nI 3) hx hb dL_trips_172 (by decide) ?_
              refine lv_iload hx hb dL_trips_173 (lv_at hl 0 rfl) ?_
              refine lv_imulN hx hb dL_trips_175 ?_
              refine lv_ishr hx hb dL_trips_176 ?_
              refine lv_iload hx hb dL_trips_177 (lv_at hl 1 rfl) ?_
              refine lv_teq (if_neg ht9) ?_
              refine nw_Sr (N1 := 5) (nm := (fun z => 198 + z)) (ce1 := lwc ct Z r) (ce1' := lwc ct Z r) (ce' := pcw O2 (g9 ct Z Y r)) (As := [.int (hv >>> ((nI (3 * j)) &&& 31)), .int (nI (t + 1))]) (rest := []) hx hb hml hown htg hK hI hP hS hA0 hl.1 z207 pinj pz7 pz7 (fun _ _ _ => rfl) (mL_low l D ct (fun z => af ((fun z => 198 + z) z)) Z r (hv >>> ((nI (3 * j)) &&& 31)) (t + 1) (by omega) (by omega)) cw_L_62 rfl rfl ⟨Nat.le_of_ble_eq_true rfl, Nat.le_of_ble_eq_true rfl⟩ (Nat.le_of_ble_eq_true rfl) dL_trips_179 ⟨(show 4 ≤ 4 by omega), (show 107 ≤ 107 by omega)⟩ (fun H locs hP hS => ?_)
              have hlo := @loN_lt (hv >>> ((nI (3 * j)) &&& 31)) (t + 1) (by omega)
              exact lv_tveq (show Value.int (nI (loN (hv >>> ((nI (3 * j)) &&& 31)) (t + 1))) = Value.int (nI (bdv hv t j)) from by exact congrArg Value.int (congrArg nI (show _ = bdv hv t j from by unfold bdv; rw [if_neg ht9, if_neg (by omega)]))) (hJ182 _ _ hP hS)
            · refine lv_iload hx hb dL_trips_162 (lv_at hl 1 rfl) ?_
              refine lv_teq (if_neg ht9) ?_
              refine lv_iload hx hb dL_trips_164 (lv_at hl 0 rfl) ?_
              refine lv_isubN hx hb (by omega) dL_trips_166 ?_
              refine lv_goto (tgt := 182) hx hb dL_trips_167 (by decide) ?_
              exact lv_tveq (show Value.int (nI ((t + 1) - j)) = Value.int (nI (bdv hv t j)) from by exact congrArg Value.int (congrArg nI (show _ = bdv hv t j from by unfold bdv; rw [if_neg ht9, if_pos c159]))) (hJ182 _ _ hP hS)
          · have ht9 : t = 999 := Classical.byContradiction (fun q => by rw [if_neg q] at c136; exact absurd c136 (nI_pos (by omega)))
            refine lv_sipush (v := nI 999) hx hb dL_trips_139 (by decide) ?_
            refine lv_iload hx hb dL_trips_142 (lv_at hl 0 rfl) ?_
            refine lv_iload hx hb dL_trips_144 (lv_at hl 14 rfl) ?_
            refine lv_bipush (v := nI 90) hx hb dL_trips_146 (by decide) ?_
            refine nw_Sr (N1 := 5) (nm := (fun z => 198 + z)) (ce1 := lwc ct Z r) (ce1' := lwc ct Z r) (ce' := pcw O2 (g9 ct Z Y r)) (As := [.int (hv), .int (nI 90)]) (rest := [.int (nI j), .int (nI 999)]) hx hb hml hown htg hK hI hP hS hA0 hl.1 z207 pinj pz7 pz7 (fun _ _ _ => rfl) (mL_low l D ct (fun z => af ((fun z => 198 + z) z)) Z r hv 90 (by omega) (by omega)) cw_L_62 rfl rfl ⟨Nat.le_of_ble_eq_true rfl, Nat.le_of_ble_eq_true rfl⟩ (Nat.le_of_ble_eq_true rfl) dL_trips_148 ⟨(show 4 ≤ 4 by omega), (show 107 ≤ 107 by omega)⟩ (fun H locs hP hS => ?_)
            have hlo := @loN_lt hv 90 (by omega)
            have hjl : j * loN hv 90 ≤ 445 := Nat.le_trans (Nat.mul_le_mul (show j ≤ 5 by omega) (show loN hv 90 ≤ 89 by omega)) (by omega)
            refine lv_imulN hx hb dL_trips_151 ?_
            refine lv_isubN hx hb (by omega) dL_trips_152 ?_
            refine lv_goto (tgt := 182) hx hb dL_trips_153 (by decide) ?_
            exact lv_tveq (show Value.int (nI (999 - (j * (loN hv 90)))) = Value.int (nI (bdv hv t j)) from by exact congrArg Value.int (congrArg nI (show _ = bdv hv t j from by unfold bdv; rw [if_pos ht9]))) (hJ182 _ _ hP hS)
        intro H locs hP hS
        have hbd := bdv_le (hv := hv) (j := j) ht2
        refine lv_istore (lv' := [(15, .int (nI (bdv hv t j))), (14, .int (nI j)), (13, .int (if t = 999 then -1 else nI (t + 1))), (12, .int (nI x)), (11, .ref (af 206)), (10, .ref (af 205)), (9, .ref (af 204)), (8, .ref (af 203)), (0, .ref (ad 0)), (1, .ref (af 198)), (2, .ref (af 199)), (3, .ref (af 200)), (4, .ref (af 201)), (5, .ref (af 202)), (6, .int (nI bk)), (7, .int (hv))]) hx hb dL_trips_182 hl (by decide) rfl (fun ls hl => ?_)
        refine lv_iload hx hb dL_trips_184 (lv_at hl 0 rfl) ?_
        refine lv_bipush (v := nI 10) hx hb dL_trips_186 (by decide) ?_
        refine lv_icmp_ltN (tgt := 326) hx hb (by omega) (by omega) dL_trips_188 (by decide) (fun c188 => ?_) (fun c188 => ?_)
        · refine lv_iinc (v := nI (j + 1)) (lv' := [(14, .int (nI (j + 1))), (15, .int (nI (bdv hv t j))), (13, .int (if t = 999 then -1 else nI (t + 1))), (12, .int (nI x)), (11, .ref (af 206)), (10, .ref (af 205)), (9, .ref (af 204)), (8, .ref (af 203)), (0, .ref (ad 0)), (1, .ref (af 198)), (2, .ref (af 199)), (3, .ref (af 200)), (4, .ref (af 201)), (5, .ref (af 202)), (6, .int (nI bk)), (7, .int (hv))]) hx hb dL_trips_326 hl (k := 1) rfl (nI_add j 1) (by decide) rfl (fun ls hl => ?_)
          refine lv_goto (tgt := 127) hx hb dL_trips_329 (by decide) ?_
          have hl := lv_sub (l' := [(14, .int (nI (j + 1))), (13, .int (if t = 999 then -1 else nI (t + 1))), (12, .int (nI x)), (11, .ref (af 206)), (10, .ref (af 205)), (9, .ref (af 204)), (8, .ref (af 203)), (0, .ref (ad 0)), (1, .ref (af 198)), (2, .ref (af 199)), (3, .ref (af 200)), (4, .ref (af 201)), (5, .ref (af 202)), (6, .int (nI bk)), (7, .int (hv))]) hl [0, 2, 3, 4, 5, 6, 7, 8, 9, 10, 11, 12, 13, 14, 15] rfl
          exact ih127 (j + 1) Y (by omega) (by omega) _ _ hP hS _ hl
        · refine lv_aload_n hx hb dL_trips_191 rfl (lv_at hl 9 rfl) ?_
          refine lv_aload hx hb dL_trips_192 (lv_at hl 7 rfl) ?_
          refine nw_S0 (N1 := 2) (nm := fun z => if z = 0 then 198 else 203) (ce1 := cp2 ct 60 (vwA Z) (vwA Y)) (ce1' := cp2 ct 60 (vwA Z) (vwA Z)) (ce' := pcw O2 (gw ct Z r (vwA Z) (vwM Y) (vwB Y) (vwT Y))) (As := [.ref (af 198), .ref (af 203)]) (rest := []) hx hb hml hown htg hK hI hP hS hA0 hl.1 (fun z hz => by show (if z = 0 then _ else _) < 207; split <;> omega) (fun i9 j9 hi hj h => by have h : (if i9 = 0 then 198 else 203) = (if j9 = 0 then 198 else 203) := h; split at h <;> split at h <;> omega) (fun z hz => by rcases (show z = 0 ∨ z = 1 by omega) with rfl | rfl <;> rfl) (fun z hz => by rcases (show z = 0 ∨ z = 1 by omega) with rfl | rfl <;> rfl) (pgw0) (mL_copy l D ct _ 60 (vwA Z) (vwA Y) (by omega)) cw_L_50 rfl rfl ⟨Nat.le_of_ble_eq_true rfl, Nat.le_of_ble_eq_true rfl⟩ (Nat.le_of_ble_eq_true rfl) dL_trips_194 ⟨(show 4 ≤ 4 by omega), (show 107 ≤ 107 by omega)⟩ (fun H locs hP hS => ?_)
          refine lv_aload_n hx hb dL_trips_197 rfl (lv_at hl 10 rfl) ?_
          refine lv_aload hx hb dL_trips_198 (lv_at hl 6 rfl) ?_
          refine nw_S0 (N1 := 2) (nm := fun z => if z = 0 then 199 else 204) (ce1 := cp2 ct 20 (vwM Z) (vwM Y)) (ce1' := cp2 ct 20 (vwM Z) (vwM Z)) (ce' := pcw O2 (gw ct Z r (vwA Z) (vwM Z) (vwB Y) (vwT Y))) (As := [.ref (af 199), .ref (af 204)]) (rest := []) hx hb hml hown htg hK hI hP hS hA0 hl.1 (fun z hz => by show (if z = 0 then _ else _) < 207; split <;> omega) (fun i9 j9 hi hj h => by have h : (if i9 = 0 then 199 else 204) = (if j9 = 0 then 199 else 204) := h; split at h <;> split at h <;> omega) (fun z hz => by rcases (show z = 0 ∨ z = 1 by omega) with rfl | rfl <;> rfl) (fun z hz => by rcases (show z = 0 ∨ z = 1 by omega) with rfl | rfl <;> rfl) (pgw1) (mL_copy l D ct _ 20 (vwM Z) (vwM Y) (by omega)) cw_L_50 rfl rfl ⟨Nat.le_of_ble_eq_true rfl, Nat.le_of_ble_eq_true rfl⟩ (Nat.le_of_ble_eq_true rfl) dL_trips_200 ⟨(show 4 ≤ 4 by omega), (show 107 ≤ 107 by omega)⟩ (fun H locs hP hS => ?_)
          refine lv_aload_n hx hb dL_trips_203 rfl (lv_at hl 11 rfl) ?_
          refine lv_aload hx hb dL_trips_204 (lv_at hl 5 rfl) ?_
          refine nw_S0 (N1 := 2) (nm := fun z => if z = 0 then 200 else 205) (ce1 := cp2 ct 20 (vwB Z) (vwB Y)) (ce1' := cp2 ct 20 (vwB Z) (vwB Z)) (ce' := pcw O2 (gw ct Z r (vwA Z) (vwM Z) (vwB Z) (vwT Y))) (As := [.ref (af 200), .ref (af 205)]) (rest := []) hx hb hml hown htg hK hI hP hS hA0 hl.1 (fun z hz => by show (if z = 0 then _ else _) < 207; split <;> omega) (fun i9 j9 hi hj h => by have h : (if i9 = 0 then 200 else 205) = (if j9 = 0 then 200 else 205) := h; split at h <;> split at h <;> omega) (fun z hz => by rcases (show z = 0 ∨ z = 1 by omega) with rfl | rfl <;> rfl) (fun z hz => by rcases (show z = 0 ∨ z = 1 by omega) with rfl | rfl <;> rfl) (pgw2) (mL_copy l D ct _ 20 (vwB Z) (vwB Y) (by omega)) cw_L_50 rfl rfl ⟨Nat.le_of_ble_eq_true rfl, Nat.le_of_ble_eq_true rfl⟩ (Nat.le_of_ble_eq_true rfl) dL_trips_206 ⟨(show 4 ≤ 4 by omega), (show 107 ≤ 107 by omega)⟩ (fun H locs hP hS => ?_)
          refine lv_aload hx hb dL_trips_209 (lv_at hl 13 rfl) ?_
          refine lv_aload hx hb dL_trips_211 (lv_at hl 4 rfl) ?_
          refine nw_S0 (N1 := 2) (nm := fun z => if z = 0 then 202 else 206) (ce1 := cp2 ct 7 (vwT Z) (vwT Y)) (ce1' := cp2 ct 7 (vwT Z) (vwT Z)) (ce' := pcw O2 (gw ct Z r (vwA Z) (vwM Z) (vwB Z) (vwT Z))) (As := [.ref (af 202), .ref (af 206)]) (rest := []) hx hb hml hown htg hK hI hP hS hA0 hl.1 (fun z hz => by show (if z = 0 then _ else _) < 207; split <;> omega) (fun i9 j9 hi hj h => by have h : (if i9 = 0 then 202 else 206) = (if j9 = 0 then 202 else 206) := h; split at h <;> split at h <;> omega) (fun z hz => by rcases (show z = 0 ∨ z = 1 by omega) with rfl | rfl <;> rfl) (fun z hz => by rcases (show z = 0 ∨ z = 1 by omega) with rfl | rfl <;> rfl) (pgw3) (mL_copy l D ct _ 7 (vwT Z) (vwT Y) (by omega)) cw_L_50 rfl rfl ⟨Nat.le_of_ble_eq_true rfl, Nat.le_of_ble_eq_true rfl⟩ (Nat.le_of_ble_eq_true rfl) dL_trips_213 ⟨(show 4 ≤ 4 by omega), (show 107 ≤ 107 by omega)⟩ (fun H locs hP hS => ?_)
          have hP : fP D 207 af (pcw O2 (g9 ct Z Z r)) H := hP
          refine lv_aload hx hb dL_trips_216 (lv_at hl 5 rfl) ?_
          refine lv_iconst (v := nI 5) hx hb dL_trips_218 (by decide) ?_
          refine lv_iload hx hb dL_trips_219 (lv_at hl 14 rfl) ?_
          refine lv_imulN hx hb dL_trips_221 ?_
          refine lv_iload hx hb dL_trips_222 (lv_at hl 0 rfl) ?_
          refine fr_iast (k := 205) (f := vwB Z) hx hb hK hI hP hS hA0 (by decide) rfl (by omega) (by decide) dL_trips_224 (pcw_he (g9_sB0 (by omega))) (fun H locs hP hS => ?_)
          refine lv_aload hx hb dL_trips_225 (lv_at hl 5 rfl) ?_
          refine lv_iconst (v := nI 5) hx hb dL_trips_227 (by decide) ?_
          refine lv_iload hx hb dL_trips_228 (lv_at hl 14 rfl) ?_
          refine lv_imulN hx hb dL_trips_230 ?_
          refine lv_iconst (v := nI 1) hx hb dL_trips_231 (by decide) ?_
          refine lv_iaddN hx hb dL_trips_232 ?_
          refine lv_iconst (v := nI 1) hx hb dL_trips_233 (by decide) ?_
          refine fr_iast (k := 205) (f := vwB (upd Z (7 + 5 * bk + 0) (nI (bdv hv t j)))) hx hb hK hI hP hS hA0 (by decide) rfl (by omega) (by decide) dL_trips_234 (pcw_he (g9_sB (by omega) (by omega))) (fun H locs hP hS => ?_)
          refine lv_aload hx hb dL_trips_235 (lv_at hl 5 rfl) ?_
          refine lv_iconst (v := nI 5) hx hb dL_trips_237 (by decide) ?_
          refine lv_iload hx hb dL_trips_238 (lv_at hl 14 rfl) ?_
          refine lv_imulN hx hb dL_trips_240 ?_
          refine lv_iconst (v := nI 2) hx hb dL_trips_241 (by decide) ?_
          refine lv_iaddN hx hb dL_trips_242 ?_
          refine lv_iconst (v := nI 0) hx hb dL_trips_243 (by decide) ?_
          refine fr_iast (k := 205) (f := vwB (upd (upd Z (7 + 5 * bk + 0) (nI (bdv hv t j))) (7 + 5 * bk + 1) (nI 1))) hx hb hK hI hP hS hA0 (by decide) rfl (by omega) (by decide) dL_trips_244 (pcw_he (g9_sB (by omega) (by omega))) (fun H locs hP hS => ?_)
          have hYs : ∀ y, y ≤ 48 → oI (hsZ (lsY Z bk (bdv hv t j)) n y) n ∧ hOn (hsZ (lsY Z bk (bdv hv t j)) n y) ∧ lG r (hsZ (lsY Z bk (bdv hv t j)) n y) n := fun y hy => lG_hs (lG_ls hg hb4 (by omega)) (lsY_oI hO hb4 (by omega) (by omega)) (lsY_hOn ho hb4) (lsY_bN hb9 hb4) (by omega)
          refine lv_iconst (v := nI 0) hx hb dL_trips_245 (by decide) ?_
          refine lv_istore (lv' := [(16, .int (nI 0)), (15, .int (nI (bdv hv t j))), (14, .int (nI j)), (13, .int (if t = 999 then -1 else nI (t + 1))), (12, .int (nI x)), (11, .ref (af 206)), (10, .ref (af 205)), (9, .ref (af 204)), (8, .ref (af 203)), (0, .ref (ad 0)), (1, .ref (af 198)), (2, .ref (af 199)), (3, .ref (af 200)), (4, .ref (af 201)), (5, .ref (af 202)), (6, .int (nI bk)), (7, .int (hv))]) hx hb dL_trips_246 hl (by decide) rfl (fun ls hl => ?_)
          have lp248 : ∀ (fu248 : Nat) (y : Nat), y ≤ 48 → 48 - y < fu248 → ∀ (H : Heap) (locs : List Loc), fP D 207 af (pcw O2 (g9 ct Z (hsZ (lsY Z bk (bdv hv t j)) n y) r)) H → va_S (nF 203 ad sz) s.heap H locs → ∀ (ls : Array Slot), lv_has ls 17 [(16, .int (nI y)), (15, .int (nI (bdv hv t j))), (14, .int (nI j)), (13, .int (if t = 999 then -1 else nI (t + 1))), (12, .int (nI x)), (11, .ref (af 206)), (10, .ref (af 205)), (9, .ref (af 204)), (8, .ref (af 203)), (0, .ref (ad 0)), (1, .ref (af 198)), (2, .ref (af 199)), (3, .ref (af 200)), (4, .ref (af 201)), (5, .ref (af 202)), (6, .int (nI bk)), (7, .int (hv))] → W p l e ({ frames := 6, cells := 4, slots := 107, locals := 133 }) s m args below meth c H locs (4) (107) (MQ below (nQ D ct 203 ad sz (some (.int (nI 1))) (pcw O2 (lwc ct Z r))) args s 4 107 (nF 203 ad sz)) (F0 m 248 ls []) := by
            intro fu248
            induction fu248 with
            | zero => intro y hy hfu248; exact absurd hfu248 (Nat.not_lt_zero _)
            | succ fu248 ih248 =>
              intro y hy hfu248 H locs hP hS ls hl
              refine lv_iload hx hb dL_trips_248 (lv_at hl 0 rfl) ?_
              refine lv_bipush (v := nI 48) hx hb dL_trips_250 (by decide) ?_
              refine lv_icmp_geN (tgt := 275) hx hb (by omega) (by omega) dL_trips_252 (by decide) (fun c252 => ?_) (fun c252 => ?_)
              · obtain rfl : y = 48 := by omega
                refine lv_aload hx hb dL_trips_275 (lv_at hl 6 rfl) ?_
                refine lv_iconst (v := nI 5) hx hb dL_trips_277 (by decide) ?_
                refine lv_iload hx hb dL_trips_278 (lv_at hl 15 rfl) ?_
                refine lv_imulN hx hb dL_trips_280 ?_
                refine lv_iconst (v := nI 3) hx hb dL_trips_281 (by decide) ?_
                refine lv_iaddN hx hb dL_trips_282 ?_
                refine fr_iald (k := 205) (f := vwB (hsZ (lsY Z bk (bdv hv t j)) n 48)) hx hb hK hP (by decide) rfl (by omega) (by decide) dL_trips_283 ?_
                refine lv_teq (vwB_at (by omega) (by omega)) ?_
                refine lv_aload_n hx hb dL_trips_284 rfl (lv_at hl 12 rfl) ?_
                refine lv_iconst (v := nI 5) hx hb dL_trips_285 (by decide) ?_
                refine lv_iload hx hb dL_trips_286 (lv_at hl 15 rfl) ?_
                refine lv_imulN hx hb dL_trips_288 ?_
                refine lv_iconst (v := nI 3) hx hb dL_trips_289 (by decide) ?_
                refine lv_iaddN hx hb dL_trips_290 ?_
                refine fr_iald (k := 200) (f := vwB Z) hx hb hK hP (by decide) rfl (by omega) (by decide) dL_trips_291 ?_
                refine lv_teq (vwB_at (by omega) (by omega)) ?_
                suffices hJ300 : W p l e ({ frames := 6, cells := 4, slots := 107, locals := 133 }) s m args below meth c H locs (4) (107) (MQ below (nQ D ct 203 ad sz (some (.int (nI 1))) (pcw O2 (lwc ct Z r))) args s 4 107 (nF 203 ad sz)) (F0 m 300 ls [.int (bi (!lwF (lsY Z bk (bdv hv t j)) n bk 49 0))]) by
                  refine lv_icmp_leR (tgt := 299) hx hb dL_trips_292 (by decide) (fun c292 => ?_) (fun c292 => ?_)
                  · refine lv_iconst (v := nI 0) hx hb dL_trips_299 (by decide) ?_
                    exact lv_tveq (show Value.int (nI 0) = Value.int (bi (!lwF (lsY Z bk (bdv hv t j)) n bk 49 0)) from by exact congrArg Value.int (congrArg bi (show false = (!lwF (lsY Z bk (bdv hv t j)) n bk 49 0) from by rw [(tr_q hO ho hb4 hb9 hh9 (by omega) (by omega)).mp c292]; rfl))) hJ300
                  · refine lv_iconst (v := nI 1) hx hb dL_trips_295 (by decide) ?_
                    refine lv_goto (tgt := 300) hx hb dL_trips_296 (by decide) ?_
                    exact lv_tveq (show Value.int (nI 1) = Value.int (bi (!lwF (lsY Z bk (bdv hv t j)) n bk 49 0)) from by exact congrArg Value.int (congrArg bi (show true = (!lwF (lsY Z bk (bdv hv t j)) n bk 49 0) from by cases q : lwF (lsY Z bk (bdv hv t j)) n bk 49 0; exact rfl; exact absurd ((tr_q hO ho hb4 hb9 hh9 (by omega) (by omega)).mpr q) (Int32.not_le.mpr c292)))) hJ300
                refine lv_istore (lv' := [(16, .int (bi (!lwF (lsY Z bk (bdv hv t j)) n bk 49 0))), (15, .int (nI (bdv hv t j))), (14, .int (nI j)), (13, .int (if t = 999 then -1 else nI (t + 1))), (12, .int (nI x)), (11, .ref (af 206)), (10, .ref (af 205)), (9, .ref (af 204)), (8, .ref (af 203)), (0, .ref (ad 0)), (1, .ref (af 198)), (2, .ref (af 199)), (3, .ref (af 200)), (4, .ref (af 201)), (5, .ref (af 202)), (6, .int (nI bk)), (7, .int (hv))]) hx hb dL_trips_300 hl (by decide) rfl (fun ls hl => ?_)
                refine lv_iload hx hb dL_trips_302 (lv_at hl 0 rfl) ?_
                refine lv_iload hx hb dL_trips_304 (lv_at hl 3 rfl) ?_
                suffices hJ321 : W p l e ({ frames := 6, cells := 4, slots := 107, locals := 133 }) s m args below meth c H locs (4) (107) (MQ below (nQ D ct 203 ad sz (some (.int (nI 1))) (pcw O2 (lwc ct Z r))) args s 4 107 (nF 203 ad sz)) (F0 m 321 ls [.int (bi (lsb t (bdv hv t j))), .int (bi (!lwF (lsY Z bk (bdv hv t j)) n bk 49 0))]) by
                  refine lv_ifltR (tgt := 316) hx hb dL_trips_306 (by decide) (fun c306 => ?_) (fun c306 => ?_)
                  · have ht9 : t = 999 := Classical.byContradiction (fun q => by rw [if_neg q] at c306; exact absurd c306 (nI_pos (by omega)))
                    refine lv_iconst (v := nI 1) hx hb dL_trips_316 (by decide) ?_
                    refine lv_goto (tgt := 321) hx hb dL_trips_317 (by decide) ?_
                    exact lv_tveq (show Value.int (nI 1) = Value.int (bi (lsb t (bdv hv t j))) from by exact congrArg Value.int (congrArg bi (show true = lsb t (bdv hv t j) from by unfold lsb; rw [decide_eq_true ht9]; rfl))) hJ321
                  · have ht9 : ¬ t = 999 := fun q => by rw [if_pos q] at c306; exact absurd c306 (by decide)
                    refine lv_iload hx hb dL_trips_309 (lv_at hl 1 rfl) ?_
                    refine lv_iload hx hb dL_trips_311 (lv_at hl 3 rfl) ?_
                    refine lv_teq (if_neg ht9) ?_
                    refine lv_icmp_geN (tgt := 320) hx hb (by omega) (by omega) dL_trips_313 (by decide) (fun c313 => ?_) (fun c313 => ?_)
                    · refine lv_iconst (v := nI 0) hx hb dL_trips_320 (by decide) ?_
                      exact lv_tveq (show Value.int (nI 0) = Value.int (bi (lsb t (bdv hv t j))) from by exact congrArg Value.int (congrArg bi (show false = lsb t (bdv hv t j) from by unfold lsb; rw [decide_eq_false ht9, decide_eq_false (show ¬ bdv hv t j < t + 1 by omega)]; rfl))) hJ321
                    · refine lv_iconst (v := nI 1) hx hb dL_trips_316 (by decide) ?_
                      refine lv_goto (tgt := 321) hx hb dL_trips_317 (by decide) ?_
                      exact lv_tveq (show Value.int (nI 1) = Value.int (bi (lsb t (bdv hv t j))) from by exact congrArg Value.int (congrArg bi (show true = lsb t (bdv hv t j) from by unfold lsb; rw [decide_eq_true (show bdv hv t j < t + 1 by omega), Bool.or_true]))) hJ321
                refine lv_icmp_eq (tgt := 326) hx hb dL_trips_321 (by decide) (fun _ => ?_) (fun h => absurd (congrArg bi (tr_ls ht3 ht4 ht2 (by omega) (by omega))) h)
                refine lv_iinc (v := nI (j + 1)) (lv' := [(14, .int (nI (j + 1))), (16, .int (bi (!lwF (lsY Z bk (bdv hv t j)) n bk 49 0))), (15, .int (nI (bdv hv t j))), (13, .int (if t = 999 then -1 else nI (t + 1))), (12, .int (nI x)), (11, .ref (af 206)), (10, .ref (af 205)), (9, .ref (af 204)), (8, .ref (af 203)), (0, .ref (ad 0)), (1, .ref (af 198)), (2, .ref (af 199)), (3, .ref (af 200)), (4, .ref (af 201)), (5, .ref (af 202)), (6, .int (nI bk)), (7, .int (hv))]) hx hb dL_trips_326 hl (k := 2) rfl (nI_add j 1) (by decide) rfl (fun ls hl => ?_)
                refine lv_goto (tgt := 127) hx hb dL_trips_329 (by decide) ?_
                have hl := lv_sub (l' := [(14, .int (nI (j + 1))), (13, .int (if t = 999 then -1 else nI (t + 1))), (12, .int (nI x)), (11, .ref (af 206)), (10, .ref (af 205)), (9, .ref (af 204)), (8, .ref (af 203)), (0, .ref (ad 0)), (1, .ref (af 198)), (2, .ref (af 199)), (3, .ref (af 200)), (4, .ref (af 201)), (5, .ref (af 202)), (6, .int (nI bk)), (7, .int (hv))]) hl [0, 3, 4, 5, 6, 7, 8, 9, 10, 11, 12, 13, 14, 15, 16] rfl
                exact ih127 (j + 1) (hsZ (lsY Z bk (bdv hv t j)) n 48) (by omega) (by omega) _ _ hP hS _ hl
              · refine lv_aload hx hb dL_trips_255 (lv_at hl 8 rfl) ?_
                refine lv_aload hx hb dL_trips_257 (lv_at hl 7 rfl) ?_
                refine lv_aload hx hb dL_trips_259 (lv_at hl 6 rfl) ?_
                refine lv_aload hx hb dL_trips_261 (lv_at hl 13 rfl) ?_
                refine lv_aload hx hb dL_trips_263 (lv_at hl 5 rfl) ?_
                refine nw_Sr (N1 := 5) (nm := (fun z => 198 + nmY z)) (ce1 := lwc ct (hsZ (lsY Z bk (bdv hv t j)) n y) r) (ce1' := lwc ct (hrZ (hsZ (lsY Z bk (bdv hv t j)) n y) n) r) (ce' := pcw O2 (g9 ct Z (hrZ (hsZ (lsY Z bk (bdv hv t j)) n y) n) r)) (As := [.ref (af 203), .ref (af 204), .ref (af 205), .ref (af 201), .ref (af 206)]) (rest := []) hx hb hml hown htg hK hI hP hS hA0 hl.1 y207 y_inj7 py7 py7 pyo7 (mL_hour l D ct (fun z => af ((fun z => 198 + nmY z) z)) (hsZ (lsY Z bk (bdv hv t j)) n y) r n ((hYs y (by omega)).1) ((hYs y (by omega)).2.1) ((hYs y (by omega)).2.2)) cw_L_54 rfl rfl ⟨Nat.le_of_ble_eq_true rfl, Nat.le_of_ble_eq_true rfl⟩ (Nat.le_of_ble_eq_true rfl) dL_trips_265 ⟨(show 4 ≤ 4 by omega), (show 107 ≤ 107 by omega)⟩ (fun H locs hP hS => ?_)
                refine lv_pop hx hb dL_trips_268 rfl ?_
                refine lv_iinc (v := nI (y + 1)) (lv' := [(16, .int (nI (y + 1))), (15, .int (nI (bdv hv t j))), (14, .int (nI j)), (13, .int (if t = 999 then -1 else nI (t + 1))), (12, .int (nI x)), (11, .ref (af 206)), (10, .ref (af 205)), (9, .ref (af 204)), (8, .ref (af 203)), (0, .ref (ad 0)), (1, .ref (af 198)), (2, .ref (af 199)), (3, .ref (af 200)), (4, .ref (af 201)), (5, .ref (af 202)), (6, .int (nI bk)), (7, .int (hv))]) hx hb dL_trips_269 hl (k := 0) rfl (nI_add y 1) (by decide) rfl (fun ls hl => ?_)
                refine lv_goto (tgt := 248) hx hb dL_trips_272 (by decide) ?_
                have hl := lv_sub (l' := [(16, .int (nI (y + 1))), (15, .int (nI (bdv hv t j))), (14, .int (nI j)), (13, .int (if t = 999 then -1 else nI (t + 1))), (12, .int (nI x)), (11, .ref (af 206)), (10, .ref (af 205)), (9, .ref (af 204)), (8, .ref (af 203)), (0, .ref (ad 0)), (1, .ref (af 198)), (2, .ref (af 199)), (3, .ref (af 200)), (4, .ref (af 201)), (5, .ref (af 202)), (6, .int (nI bk)), (7, .int (hv))]) hl [0, 1, 2, 3, 4, 5, 6, 7, 8, 9, 10, 11, 12, 13, 14, 15, 16] rfl
                have hP := fP.eqc (congrArg (fun v9 => pcw O2 (g9 ct Z v9 r)) (show (hrZ (hsZ (lsY Z bk (bdv hv t j)) n y) n) = (hsZ (lsY Z bk (bdv hv t j)) n (y + 1)) from by rfl)) hP
                exact ih248 (y + 1) (by omega) (by omega) _ _ hP hS _ hl
          have hl := lv_sub (l' := [(16, .int (nI 0)), (15, .int (nI (bdv hv t j))), (14, .int (nI j)), (13, .int (if t = 999 then -1 else nI (t + 1))), (12, .int (nI x)), (11, .ref (af 206)), (10, .ref (af 205)), (9, .ref (af 204)), (8, .ref (af 203)), (0, .ref (ad 0)), (1, .ref (af 198)), (2, .ref (af 199)), (3, .ref (af 200)), (4, .ref (af 201)), (5, .ref (af 202)), (6, .int (nI bk)), (7, .int (hv))]) hl [0, 1, 2, 3, 4, 5, 6, 7, 8, 9, 10, 11, 12, 13, 14, 15, 16] rfl
          have hP := fP.eqc (congrArg (fun v9 => pcw O2 (g9 ct Z v9 r)) (show (upd (upd (upd Z (7 + 5 * bk + 0) (nI (bdv hv t j))) (7 + 5 * bk + 1) (nI 1)) (7 + 5 * bk + 2) (nI 0)) = (hsZ (lsY Z bk (bdv hv t j)) n 0) from by rfl)) hP
          exact lp248 (48 - 0 + 1) 0 (by omega) (Nat.lt_succ_self _) _ _ hP hS _ hl
  have hl := lv_sub (l' := [(14, .int (nI 0)), (13, .int (if t = 999 then -1 else nI (t + 1))), (12, .int (nI x)), (11, .ref (af 206)), (10, .ref (af 205)), (9, .ref (af 204)), (8, .ref (af 203)), (0, .ref (ad 0)), (1, .ref (af 198)), (2, .ref (af 199)), (3, .ref (af 200)), (4, .ref (af 201)), (5, .ref (af 202)), (6, .int (nI bk)), (7, .int (hv))]) hl [0, 1, 2, 3, 4, 5, 6, 7, 8, 9, 10, 11, 12, 13, 14] rfl
  exact lp127 (6 - 0 + 1) 0 (hsZ Z n x) (by omega) (Nat.lt_succ_self _) _ _ hP hS _ hl
