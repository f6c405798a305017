/-! WHAT IS MADE: the object -/
theorem hip_ad {ct : Nat → ClassId} {ad ad2 : Nat → Nat} {i : Nat} (h : ∀ z, z < 116 → ad z = ad2 z) (hi : i < 116) : hip ct ad 6 i = hip ct ad2 6 i := by
  unfold hip
  by_cases c0 : i = 0
  · rw [if_pos c0, if_pos c0, h 1 (by omega)]
  · by_cases c1 : i = 1
    · rw [if_neg c0, if_pos c1, if_neg c0, if_pos c1]
      have e : (fun j => if j < 6 then some (ad (2 + 19 * j)) else none) = fun j => if j < 6 then some (ad2 (2 + 19 * j)) else none := by
        funext j
        by_cases c : j < 6
        · rw [if_pos c, if_pos c, h _ (by omega)]
        · rw [if_neg c, if_neg c]
      rw [e]
    · rw [if_neg c0, if_neg c1, if_neg c0, if_neg c1]
      exact mkc_ad (fun z hz => h _ (by omega))
theorem ptc_ad {ct : Nat → ClassId} {ad ad2 : Nat → Nat} {B A : Nat → Int32} {ln a kd : Int32} {i : Nat} (h : ∀ z, z < 3 → ad z = ad2 z) : ptc ct ad B A ln a kd i = ptc ct ad2 B A ln a kd i := by
  rcases i with _ | _ | i
  · show Sum.inr (3, ptF ad ln a kd) = Sum.inr (3, ptF ad2 ln a kd)
    unfold ptF; rw [h 1 (by omega), h 2 (by omega)]
  · rfl
  · rfl
/-- the object in the order in which it is made -/
def cro (ct : Nat → ClassId) (ad : Nat → Nat) (fs : List Value) (g : Nat → Option Nat) : Nat → va_E := fun i =>
  if i = 0 then .inr (5, fs) else if i < 20 then mkc ct (fun z => ad (1 + z)) iM (i - 1) else if i < 39 then mkc ct (fun z => ad (20 + z)) iM (i - 20) else if i = 39 then .inl (ct 5, 2, .inr (.inr (.inr (.inr g)))) else if i < 59 then mkc ct (fun z => ad (40 + z)) iM (i - 40) else if i < 78 then mkc ct (fun z => ad (59 + z)) iM (i - 59) else if i = 78 then .inl (ct 1, 2, .inl (fun _ => 0)) else if i < 195 then hip ct (fun z => ad (79 + z)) 6 (i - 79) else ptc ct (fun z => ad (195 + z)) (fun _ => 0) (fun _ => 0) 0 0 0 (i - 195)
theorem cro_ad {ct : Nat → ClassId} {ad ad2 : Nat → Nat} {fs : List Value} {g : Nat → Option Nat} {N i : Nat} (h : ∀ j, j < N → ad2 j = ad j) (hN : N = 1 ∨ N = 20 ∨ N = 39 ∨ N = 40 ∨ N = 59 ∨ N = 78 ∨ N = 79 ∨ N = 195 ∨ N = 198) (hi : i < N) : cro ct ad2 fs g i = cro ct ad fs g i := by
  unfold cro
  by_cases c0 : i = 0
  · rw [if_pos c0, if_pos c0]
  rw [if_neg c0, if_neg c0]
  by_cases c1 : i < 20
  · rw [if_pos c1, if_pos c1]; exact mkc_ad (fun z hz => h _ (by omega))
  rw [if_neg c1, if_neg c1]
  by_cases c2 : i < 39
  · rw [if_pos c2, if_pos c2]; exact mkc_ad (fun z hz => h _ (by omega))
  rw [if_neg c2, if_neg c2]
  by_cases c3 : i = 39
  · rw [if_pos c3, if_pos c3]
  rw [if_neg c3, if_neg c3]
  by_cases c4 : i < 59
  · rw [if_pos c4, if_pos c4]; exact mkc_ad (fun z hz => h _ (by omega))
  rw [if_neg c4, if_neg c4]
  by_cases c5 : i < 78
  · rw [if_pos c5, if_pos c5]; exact mkc_ad (fun z hz => h _ (by omega))
  rw [if_neg c5, if_neg c5]
  by_cases c6 : i = 78
  · rw [if_pos c6, if_pos c6]
  rw [if_neg c6, if_neg c6]
  by_cases c7 : i < 195
  · rw [if_pos c7, if_pos c7]; exact hip_ad (fun z hz => h _ (by omega)) (by omega)
  rw [if_neg c7, if_neg c7]
  exact ptc_ad (fun z hz => h _ (by omega))
theorem cro_J {ct : Nat → ClassId} {ad ad2 : Nat → Nat} {fs : List Value} {g : Nat → Option Nat} {N0 n : Nat} {x : va_E} {ce1 : (Nat → Nat) → Nat → va_E} (h : ∀ j, j < N0 → ad2 j = ad j) (hN : N0 = 1 ∨ N0 = 20 ∨ N0 = 39 ∨ N0 = 40 ∨ N0 = 59 ∨ N0 = 78 ∨ N0 = 79 ∨ N0 = 195 ∨ N0 = 198) (hc : ∀ i, N0 ≤ i → i < N0 + n → ce1 (fun z => ad2 (N0 + z)) (i - N0) = cro ct ad2 fs g i) : ∀ i, i < N0 + n → ceJ (va_up (cro ct ad fs g) N0 x) ce1 ad2 N0 i = cro ct ad2 fs g i := by
  intro i hi
  unfold ceJ
  by_cases c : i < N0
  · rw [if_pos c, va_up_ne _ _ (show i ≠ N0 by omega)]; exact (cro_ad h hN c).symm
  · rw [if_neg c]; exact hc i (by omega) hi
theorem cro_N {ct : Nat → ClassId} {ad ad2 : Nat → Nat} {fs : List Value} {g g2 : Nat → Option Nat} {N0 : Nat} {x : va_E} (h : ∀ j, j < N0 → ad2 j = ad j) (hN : N0 = 1 ∨ N0 = 20 ∨ N0 = 39 ∨ N0 = 40 ∨ N0 = 59 ∨ N0 = 78 ∨ N0 = 79 ∨ N0 = 195 ∨ N0 = 198) (hg : g = g2 ∨ N0 = 39) (hc : x = cro ct ad2 fs g2 N0) : ∀ i, i < N0 + 1 → va_up (cro ct ad fs g) N0 x i = cro ct ad2 fs g2 i := by
  intro i hi
  by_cases c : i < N0
  · rw [va_up_ne _ _ (show i ≠ N0 by omega)]
    rcases hg with rfl | hg
    · exact (cro_ad h hN c).symm
    · rw [← cro_ad h hN c]
      unfold cro
      by_cases c0 : i = 0
      · rw [if_pos c0, if_pos c0]
      · by_cases c1 : i < 20
        · rw [if_neg c0, if_pos c1, if_neg c0, if_pos c1]
        · rw [if_neg c0, if_neg c1, if_pos (by omega), if_neg c0, if_neg c1, if_pos (by omega)]
  · rw [show i = N0 by omega, hc]; unfold va_up; exact if_pos rfl
theorem cro_F {ct : Nat → ClassId} {ad : Nat → Nat} {fs fs2 : List Value} {g : Nat → Option Nat} {N : Nat} : ∀ i, i < N → va_up (cro ct ad fs g) 0 (.inr (5, fs2)) i = cro ct ad fs2 g i := by
  intro i hi
  by_cases c : i = 0
  · subst c; unfold va_up; rw [if_pos rfl]; rfl
  · rw [va_up_ne _ _ c]; unfold cro; rw [if_neg c, if_neg c]
theorem cro_S {ct : Nat → ClassId} {ad : Nat → Nat} {fs : List Value} {g g2 : Nat → Option Nat} {N : Nat} : ∀ i, i < N → va_up (cro ct ad fs g) 39 (.inl (ct 5, 2, .inr (.inr (.inr (.inr g2))))) i = cro ct ad fs g2 i := by
  intro i hi
  by_cases c : i = 39
  · subst c; unfold va_up; rw [if_pos rfl]; rfl
  · rw [va_up_ne _ _ c]; unfold cro
    by_cases c0 : i = 0
    · rw [if_pos c0, if_pos c0]
    by_cases c1 : i < 20
    · rw [if_neg c0, if_pos c1, if_neg c0, if_pos c1]
    by_cases c2 : i < 39
    · rw [if_neg c0, if_neg c1, if_pos c2, if_neg c0, if_neg c1, if_pos c2]
    rw [if_neg c0, if_neg c1, if_neg c2, if_neg c, if_neg c0, if_neg c1, if_neg c2, if_neg c]
/-- where a name of the object lies in that order -/
def cri (i : Nat) : Nat := if i = 0 then 0 else if i = 1 then 39 else if i = 2 then 78 else if i = 3 then 79 else if i = 4 then 80 else if i < 8 then 190 + i else if i < 27 then 1 + (i - 8) else if i < 46 then 20 + (i - 27) else if i < 65 then 40 + (i - 46) else if i < 84 then 59 + (i - 65) else 81 + (i - 84)
theorem cri_lt {i : Nat} (h : i < 198) : cri i < 198 := by unfold cri; (repeat' split) <;> omega
/-- the inverse of the order -/
def crv (i : Nat) : Nat := if i = 0 then 0 else if i = 39 then 1 else if i = 78 then 2 else if i = 79 then 3 else if i = 80 then 4 else if 194 < i then i - 190 else if i < 20 then i + 7 else if i < 39 then i + 7 else if i < 59 then i + 6 else if i < 78 then i + 6 else i + 3
theorem crv_cri : ∀ i, i < 198 → crv (cri i) = i := by decide +kernel
theorem cri_inj {i j : Nat} (hi : i < 198) (hj : j < 198) (h : cri i = cri j) : i = j := by
  have e := crv_cri i hi
  rw [h, crv_cri j hj] at e
  exact e.symm
theorem vp_q {cA : ClassId} {n : Nat} {f g : Nat → Option Nat} (h : ∀ k, k < n → f k = g k) : vp_cell cA (n, .inr (.inr (.inr (.inr f)))) = vp_cell cA (n, .inr (.inr (.inr (.inr g)))) := by
  show arrV cA n (fun j => va_rf (f j)) = arrV cA n (fun j => va_rf (g j))
  unfold arrV
  congr 1
  congr 1
  funext j
  show va_rf (f j.val) = va_rf (g j.val)
  rw [h j.val j.isLt]
theorem cro_csc {D : va_G} {ct : Nat → ClassId} {ad : Nat → Nat} {H : Heap} (hP : fP D 198 ad (cro ct ad [.ref (ad 1), .ref (ad 20), .ref (ad 39), .ref (ad 78), .ref (ad 79), .ref (ad 195)] (va_up (va_up (fun _ => none) 0 (some (ad 40))) 1 (some (ad 59)))) H) : fP D 198 (fun i => ad (cri i)) (csc ct (fun i => ad (cri i)) (fun _ => iM) (fun _ => 0) (nI 0) (nI 0) (fun _ => 0) (fun _ => 0) (nI 0) (nI 0) 0) H := by
  refine fP.of (fun i hi => ?_)
  have hat := hP.at (cri_lt hi)
  by_cases c8 : i < 8
  · rcases (show i = 0 ∨ i = 1 ∨ i = 2 ∨ i = 3 ∨ i = 4 ∨ i = 5 ∨ i = 6 ∨ i = 7 by omega) with rfl | rfl | rfl | rfl | rfl | rfl | rfl | rfl
    · exact hat
    · have e : H[ad 39]? = some (vp_cell (ct 5) (2, .inr (.inr (.inr (.inr (va_up (va_up (fun _ => none) 0 (some (ad 40))) 1 (some (ad 59)))))))) := hat
      show H[ad 39]? = some (vp_cell (ct 5) (2, .inr (.inr (.inr (.inr fun k => some (ad (cri (8 + 19 * (2 + k)))))))))
      rw [e, vp_q]
      intro k hk
      rcases (show k = 0 ∨ k = 1 by omega) with rfl | rfl <;> rfl
    · exact hat
    · exact hat
    · have e : H[ad 80]? = some (vp_cell (ct 5) (6, .inr (.inr (.inr (.inr fun j => if j < 6 then some (ad (79 + (2 + 19 * j))) else none))))) := hat
      show H[ad 80]? = some (vp_cell (ct 5) (6, .inr (.inr (.inr (.inr fun k => some (ad (cri (8 + 19 * (4 + k)))))))))
      rw [e, vp_q]
      intro k hk
      rw [if_pos hk]
      unfold cri
      rw [if_neg (by omega), if_neg (by omega), if_neg (by omega), if_neg (by omega), if_neg (by omega), if_neg (by omega), if_neg (by omega), if_neg (by omega), if_neg (by omega), if_neg (by omega), show 79 + (2 + 19 * k) = 81 + (8 + 19 * (4 + k) - 84) by omega]
    · exact hat
    · exact hat
    · exact hat
  · obtain ⟨r, z, hz, rfl⟩ : ∃ r z, z < 19 ∧ i = 8 + 19 * r + z := ⟨(i - 8) / 19, (i - 8) % 19, by omega, by omega⟩
    have hr : r < 10 := by omega
    have hcell : ∀ b0, (∀ y, y < 19 → cri (8 + 19 * r + y) = b0 + y) → cro ct ad [.ref (ad 1), .ref (ad 20), .ref (ad 39), .ref (ad 78), .ref (ad 79), .ref (ad 195)] (va_up (va_up (fun _ => none) 0 (some (ad 40))) 1 (some (ad 59))) (b0 + z) = mkc ct (fun y => ad (b0 + y)) iM z → va_at D vwCl (ad (cri (8 + 19 * r + z)), csc ct (fun i => ad (cri i)) (fun _ => iM) (fun _ => 0) (nI 0) (nI 0) (fun _ => 0) (fun _ => 0) (nI 0) (nI 0) 0 (8 + 19 * r + z)) H := fun b0 h1 h2 => by
      rw [csc_m (M := iM) hz rfl rfl, h1 z hz]
      rw [h1 z hz, h2] at hat
      rw [mkc_ad (ad' := fun y => ad (b0 + y)) (fun y hy => by show ad (cri (8 + 19 * r + y)) = ad (b0 + y); rw [h1 y hy])]
      exact hat
    rcases (show r = 0 ∨ r = 1 ∨ r = 2 ∨ r = 3 ∨ 4 ≤ r by omega) with rfl | rfl | rfl | rfl | h4
    · refine hcell 1 (fun y hy => by unfold cri; (repeat' split) <;> omega) ?_
      unfold cro; rw [if_neg (by omega), if_pos (by omega), show 1 + z - 1 = z by omega]
    · refine hcell 20 (fun y hy => by unfold cri; (repeat' split) <;> omega) ?_
      unfold cro; rw [if_neg (by omega), if_neg (by omega), if_pos (by omega), show 20 + z - 20 = z by omega]
    · refine hcell 40 (fun y hy => by unfold cri; (repeat' split) <;> omega) ?_
      unfold cro; rw [if_neg (by omega), if_neg (by omega), if_neg (by omega), if_neg (by omega), if_pos (by omega), show 40 + z - 40 = z by omega]
    · refine hcell 59 (fun y hy => by unfold cri; (repeat' split) <;> omega) ?_
      unfold cro; rw [if_neg (by omega), if_neg (by omega), if_neg (by omega), if_neg (by omega), if_neg (by omega), if_pos (by omega), show 59 + z - 59 = z by omega]
    · refine hcell (81 + 19 * (r - 4)) (fun y hy => by unfold cri; (repeat' split) <;> omega) ?_
      unfold cro; rw [if_neg (by omega), if_neg (by omega), if_neg (by omega), if_neg (by omega), if_neg (by omega), if_neg (by omega), if_neg (by omega), if_pos (by omega)]
      unfold hip
      rw [if_neg (by omega), if_neg (by omega), show (81 + 19 * (r - 4) + z - 79 - 2) / 19 = r - 4 by omega, show (81 + 19 * (r - 4) + z - 79 - 2) % 19 = z by omega]
      exact mkc_ad (fun y hy => by show ad (79 + (2 + 19 * (r - 4) + y)) = ad (81 + 19 * (r - 4) + y); rw [show 79 + (2 + 19 * (r - 4) + y) = 81 + 19 * (r - 4) + y by omega])
theorem ki_X5 : Cond.initialized RX1 ∈ wB ∧ Cond.instanceMethod yX1_init ∈ wB ∧ Cond.code yX1_init cX1_init 2 none ∈ wB ∧ Cond.instantiable RX1 3 ∈ wB ∧ Cond.methodLink RX5 29 yX1_init ∈ wB := ⟨xb (by decide +kernel) rfl, xb (by decide +kernel) rfl, xb (by decide +kernel) (by decide +kernel), xb (by decide +kernel) rfl, xb (by decide +kernel) rfl⟩
theorem ki_X3 : Cond.initialized RX3 ∈ wB ∧ Cond.instanceMethod yX3_init ∈ wB ∧ Cond.code yX3_init cX3_init 1 none ∈ wB ∧ Cond.instantiable RX3 5 ∈ wB := ⟨xb (by decide +kernel) rfl, xb (by decide +kernel) rfl, xb (by decide +kernel) (by decide +kernel), xb (by decide +kernel) rfl⟩
set_option maxRecDepth 100000 in
set_option maxHeartbeats 4000000 in
theorem mX5_init (l : Launch) (D : va_G) (ct : Nat → ClassId) (q sz : Nat) : CMet l yX5_init cX5_init 2 4 88 197 1592 D ct q sz 5 [.null, .null, .null, .null, .null, .null] 198 (fun ad => csc ct ad (fun _ => iM) (fun _ => 0) (nI 0) (nI 0) (fun _ => 0) (fun _ => 0) (nI 0) (nI 0) 0) := by
  refine CMet.of (by decide +kernel) rfl (Nat.le_of_ble_eq_true rfl) ?_
  intro p e s m args below meth c ls hx hb hr hml hown hlocks hin htg hK hsz hq hP hS hl hE
  have hI : fI 1 (fun _ : Nat => q) := fun i j hi hj _ => by omega
  have hA0 : ∀ k, k < 1 → nZ q sz ((fun _ : Nat => q) k) := fun _ _ => Or.inl rfl
  have hA : ∀ x, s.heap.size ≤ x → nZ q sz x := fun x h => Or.inr (by rw [← hsz]; exact h)
  obtain ⟨hst, hnest, hcl, ao4, ao0, ao2, mn4, mn0, mn3⟩ := hE
  have hE : kE (nZ q sz) s s.heap := ⟨hst, hnest, hcl, ao4, ao0, ao2, mn4, mn0, mn3⟩
  refine lv_aload_n hx hb dX5_init_0 rfl (lv_at hl 0 rfl) ?_
  refine W.objInit hx hb hown (htg _ ko_X5) (htg _ ko_2) (htg _ ko_3) rfl (by rw [hml]; exact hl.1) rfl dX5_init_1 (Nat.le_of_ble_eq_true rfl) (Nat.le_of_ble_eq_true rfl) ?_
  refine W.eq (g2 := F0 m 4 ls []) rfl ?_
  have hP : fP D 1 (fun _ => q) (cro ct (fun _ => q) [.null, .null, .null, .null, .null, .null] (fun _ => none)) s.heap := hP.ext (fun i hi => by rcases i with _ | i <;> first | rfl | exact absurd hi (by show ¬ i + 1 < 1; omega))
  have had0 : (fun _ : Nat => q) 0 = q := rfl
  generalize (fun _ : Nat => q) = ad at hP hI hA0 had0
  refine lv_aload_n hx hb dX5_init_4 rfl (lv_at hl 0 rfl) ?_
  refine rn_new (ci := 2) (fs := [.null, .int 0, .null, .null, .null, .int 0, .int 0, .int 0]) hx hb hown htg hK hI hP hA0 hS hA rfl inB_X2 tyX2 tyX2_ok kc_X5_7 ki_X2.2.2.2.1 ki_X2.1 (fun j hj => by rcases j with _ | _ | _ | _ | _ | _ | _ | _ | j <;> first | rfl | omega) ⟨Nat.le_of_ble_eq_true rfl, Nat.le_of_ble_eq_true rfl⟩ dX5_init_5 (fun q1 H hP hI hA0 hS => ?_)
  refine lv_dup hx hb dX5_init_8 rfl ?_
  have e9 : adS ad 1 q1 1 = q1 := adS_at
  have hlt : ∀ j, j < 1 → adS ad 1 q1 j = ad j := fun j hj => adS_lt hj
  generalize adS ad 1 q1 = ad1 at hP hI hA0 e9 hlt
  refine W.eq (g2 := F0 m 9 ls [.ref (ad1 1), .ref q1, .ref q]) (by rw [e9]) ?_
  refine rn_init (N0 := 1) (n := 19) (ce1 := fun ad => mkc ct ad iM) hx hb hml hl.1 hown htg hK hI hP hA0 hS hA hE (by decide) (by unfold va_up; exact if_pos rfl) (mX2_init l D ct (ad1 1) H.size) ki_X2.2.2.2.2.2 ki_X2.1 ki_X2.2.1 ki_X2.2.2.1 rfl ⟨by decide, by decide, by decide +kernel⟩ ⟨Nat.le_of_ble_eq_true rfl, Nat.le_of_ble_eq_true rfl⟩ (Nat.le_of_ble_eq_true rfl) dX5_init_9 ⟨Nat.le_of_ble_eq_true rfl, Nat.le_of_ble_eq_true rfl⟩ (fun ad2 H locs h9 hP hI hA0 hS => ?_)
  have hag : ∀ j, j < 1 → ad2 j = ad j := fun j hj => (h9 j (by omega)).trans (hlt j hj)
  have nq1 : ad2 1 = q1 := (h9 1 (by omega)).trans e9
  have hP : fP D 20 ad2 (cro ct ad2 [.null, .null, .null, .null, .null, .null] (fun _ => none)) H := hP.ext (cro_J (n := 19) hag (by decide) (fun i h1 h2 => by
    unfold cro
    rw [if_neg (by omega), if_pos (by omega)]))
  have had0 := (hag 0 (by omega)).trans had0
  clear h9 hag hlt e9
  generalize ad2 = ad at hP hI hA0 had0 nq1
  refine W.eq (g2 := F0 m 12 ls [.ref q1, .ref (ad 0)]) (by rw [had0]) ?_
  refine rn_putF (k := 0) (N := 20) (ad := ad) (ci := 5) (fs := [.null, .null, .null, .null, .null, .null]) (ty := .object RX2) (v := .ref q1) hx hb hown htg hK hI hP hS hA0 hin (by decide) rfl rfl inB_X5 tyX5 tyX5_ok nmX5 (j := 0) (by decide) fl_X5_10 rfl rfl rfl rfl rfl rfl (Nat.le_of_ble_eq_true rfl) dX5_init_12 (fun H locs hP hS => ?_)
  have hP : fP D 20 ad (cro ct ad [.ref q1, .null, .null, .null, .null, .null] (fun _ => none)) H := hP.ext cro_F
  refine lv_aload_n hx hb dX5_init_15 rfl (lv_at hl 0 rfl) ?_
  refine rn_new (ci := 2) (fs := [.null, .int 0, .null, .null, .null, .int 0, .int 0, .int 0]) hx hb hown htg hK hI hP hA0 hS hA rfl inB_X2 tyX2 tyX2_ok kc_X5_7 ki_X2.2.2.2.1 ki_X2.1 (fun j hj => by rcases j with _ | _ | _ | _ | _ | _ | _ | _ | j <;> first | rfl | omega) ⟨Nat.le_of_ble_eq_true rfl, Nat.le_of_ble_eq_true rfl⟩ dX5_init_16 (fun q2 H hP hI hA0 hS => ?_)
  refine lv_dup hx hb dX5_init_19 rfl ?_
  have e9 : adS ad 20 q2 20 = q2 := adS_at
  have hlt : ∀ j, j < 20 → adS ad 20 q2 j = ad j := fun j hj => adS_lt hj
  generalize adS ad 20 q2 = ad1 at hP hI hA0 e9 hlt
  refine W.eq (g2 := F0 m 20 ls [.ref (ad1 20), .ref q2, .ref q]) (by rw [e9]) ?_
  refine rn_init (N0 := 20) (n := 19) (ce1 := fun ad => mkc ct ad iM) hx hb hml hl.1 hown htg hK hI hP hA0 hS hA hE (by decide) (by unfold va_up; exact if_pos rfl) (mX2_init l D ct (ad1 20) H.size) ki_X2.2.2.2.2.2 ki_X2.1 ki_X2.2.1 ki_X2.2.2.1 rfl ⟨by decide, by decide, by decide +kernel⟩ ⟨Nat.le_of_ble_eq_true rfl, Nat.le_of_ble_eq_true rfl⟩ (Nat.le_of_ble_eq_true rfl) dX5_init_20 ⟨Nat.le_of_ble_eq_true rfl, Nat.le_of_ble_eq_true rfl⟩ (fun ad2 H locs h9 hP hI hA0 hS => ?_)
  have hag : ∀ j, j < 20 → ad2 j = ad j := fun j hj => (h9 j (by omega)).trans (hlt j hj)
  have nq2 : ad2 20 = q2 := (h9 20 (by omega)).trans e9
  have hP : fP D 39 ad2 (cro ct ad2 [.ref q1, .null, .null, .null, .null, .null] (fun _ => none)) H := hP.ext (cro_J (n := 19) hag (by decide) (fun i h1 h2 => by
    unfold cro
    rw [if_neg (by omega), if_neg (by omega), if_pos (by omega)]))
  have had0 := (hag 0 (by omega)).trans had0
  have nq1 := (hag 1 (by omega)).trans nq1
  clear h9 hag hlt e9
  generalize ad2 = ad at hP hI hA0 had0 nq1 nq2
  refine W.eq (g2 := F0 m 23 ls [.ref q2, .ref (ad 0)]) (by rw [had0]) ?_
  refine rn_putF (k := 0) (N := 39) (ad := ad) (ci := 5) (fs := [.ref q1, .null, .null, .null, .null, .null]) (ty := .object RX2) (v := .ref q2) hx hb hown htg hK hI hP hS hA0 hin (by decide) rfl rfl inB_X5 tyX5 tyX5_ok nmX5 (j := 1) (by decide) fl_X5_16 rfl rfl rfl rfl rfl rfl (Nat.le_of_ble_eq_true rfl) dX5_init_23 (fun H locs hP hS => ?_)
  have hP : fP D 39 ad (cro ct ad [.ref q1, .ref q2, .null, .null, .null, .null] (fun _ => none)) H := hP.ext cro_F
  refine lv_aload_n hx hb dX5_init_26 rfl (lv_at hl 0 rfl) ?_
  refine lv_iconst (v := nI 2) hx hb dX5_init_27 (by decide) ?_
  refine rn_newq (k0 := 5) (n := 2) hx hb hown htg hK hI hP hA0 hS hA kc_X5_7 ao2 rfl (by decide) ⟨Nat.le_of_ble_eq_true rfl, Nat.le_of_ble_eq_true rfl⟩ dX5_init_28 (fun q3 H hP hI hA0 hS => ?_)
  have e9 : adS ad 39 q3 39 = q3 := adS_at
  have hag : ∀ j, j < 39 → adS ad 39 q3 j = ad j := fun j hj => adS_lt hj
  have hP : fP D 40 (adS ad 39 q3) (cro ct (adS ad 39 q3) [.ref q1, .ref q2, .null, .null, .null, .null] (fun _ => none)) H := hP.ext (cro_N (g2 := (fun _ => none)) hag (by decide) (Or.inl rfl) rfl)
  have had0 := (hag 0 (by omega)).trans had0
  have nq1 := (hag 1 (by omega)).trans nq1
  have nq2 := (hag 20 (by omega)).trans nq2
  clear hag
  have nq3 := e9
  clear e9
  generalize adS ad 39 q3 = ad at hP hI hA0 had0 nq1 nq2 nq3
  refine W.eq (g2 := F0 m 31 ls [.ref q3, .ref (ad 0)]) (by rw [had0]) ?_
  refine rn_putF (k := 0) (N := 40) (ad := ad) (ci := 5) (fs := [.ref q1, .ref q2, .null, .null, .null, .null]) (ty := .array (.object RX2)) (v := .ref q3) hx hb hown htg hK hI hP hS hA0 hin (by decide) rfl rfl inB_X5 tyX5 tyX5_ok nmX5 (j := 2) (by decide) fl_X5_19 rfl rfl rfl rfl rfl rfl (Nat.le_of_ble_eq_true rfl) dX5_init_31 (fun H locs hP hS => ?_)
  have hP : fP D 40 ad (cro ct ad [.ref q1, .ref q2, .ref q3, .null, .null, .null] (fun _ => none)) H := hP.ext cro_F
  refine lv_iconst (v := nI 0) hx hb dX5_init_34 (by decide) ?_
  refine lv_istore_n (lv' := [(1, .int (nI 0)), (0, .ref q)]) hx hb dX5_init_35 rfl hl (by decide) rfl (fun ls hl => ?_)
  refine lv_iload_n hx hb dX5_init_36 rfl (lv_at hl 0 rfl) ?_
  refine lv_iconst (v := nI 2) hx hb dX5_init_37 (by decide) ?_
  refine lv_icmp_ge (tgt := 60) hx hb dX5_init_38 (by decide) (fun h => absurd h (by decide)) (fun _ => ?_)
  refine lv_aload_n hx hb dX5_init_41 rfl (lv_at hl 1 rfl) ?_
  refine W.eq (g2 := F0 m 42 ls [.ref (ad 0)]) (by rw [had0]) ?_
  refine fr_get (k := 0) (ci := 5) (fs := [.ref q1, .ref q2, .ref q3, .null, .null, .null]) hx hb hown htg hK hP (by decide) rfl rfl inB_X5 (j := 2) (by decide) fl_X5_19 rfl rfl dX5_init_42 ?_
  refine lv_iload_n hx hb dX5_init_45 rfl (lv_at hl 0 rfl) ?_
  refine rn_new (ci := 2) (fs := [.null, .int 0, .null, .null, .null, .int 0, .int 0, .int 0]) hx hb hown htg hK hI hP hA0 hS hA rfl inB_X2 tyX2 tyX2_ok kc_X5_7 ki_X2.2.2.2.1 ki_X2.1 (fun j hj => by rcases j with _ | _ | _ | _ | _ | _ | _ | _ | j <;> first | rfl | omega) ⟨Nat.le_of_ble_eq_true rfl, Nat.le_of_ble_eq_true rfl⟩ dX5_init_46 (fun q4 H hP hI hA0 hS => ?_)
  refine lv_dup hx hb dX5_init_49 rfl ?_
  have e9 : adS ad 40 q4 40 = q4 := adS_at
  have hlt : ∀ j, j < 40 → adS ad 40 q4 j = ad j := fun j hj => adS_lt hj
  generalize adS ad 40 q4 = ad1 at hP hI hA0 e9 hlt
  refine W.eq (g2 := F0 m 50 ls [.ref (ad1 40), .ref q4, .int (nI 0), .ref q3]) (by rw [e9]) ?_
  refine rn_init (N0 := 40) (n := 19) (ce1 := fun ad => mkc ct ad iM) hx hb hml hl.1 hown htg hK hI hP hA0 hS hA hE (by decide) (by unfold va_up; exact if_pos rfl) (mX2_init l D ct (ad1 40) H.size) ki_X2.2.2.2.2.2 ki_X2.1 ki_X2.2.1 ki_X2.2.2.1 rfl ⟨by decide, by decide, by decide +kernel⟩ ⟨Nat.le_of_ble_eq_true rfl, Nat.le_of_ble_eq_true rfl⟩ (Nat.le_of_ble_eq_true rfl) dX5_init_50 ⟨Nat.le_of_ble_eq_true rfl, Nat.le_of_ble_eq_true rfl⟩ (fun ad2 H locs h9 hP hI hA0 hS => ?_)
  have hag : ∀ j, j < 40 → ad2 j = ad j := fun j hj => (h9 j (by omega)).trans (hlt j hj)
  have nq4 : ad2 40 = q4 := (h9 40 (by omega)).trans e9
  have hP : fP D 59 ad2 (cro ct ad2 [.ref q1, .ref q2, .ref q3, .null, .null, .null] (fun _ => none)) H := hP.ext (cro_J (n := 19) hag (by decide) (fun i h1 h2 => by
    unfold cro
    rw [if_neg (by omega), if_neg (by omega), if_neg (by omega), if_neg (by omega), if_pos (by omega)]))
  have had0 := (hag 0 (by omega)).trans had0
  have nq1 := (hag 1 (by omega)).trans nq1
  have nq2 := (hag 20 (by omega)).trans nq2
  have nq3 := (hag 39 (by omega)).trans nq3
  clear h9 hag hlt e9
  generalize ad2 = ad at hP hI hA0 had0 nq1 nq2 nq3 nq4
  refine W.eq (g2 := F0 m 53 ls [.ref (ad 40), .int (nI 0), .ref (ad 39)]) (by rw [nq4, nq3]) ?_
  refine rn_astq (k := 39) (i := 0) (len := 2) (t0 := 5) (kv := 40) (ci := 2) (vs := mkF (fun z => ad (40 + z)) iM) (f := (fun _ => none)) hx hb hK hI hP hS hA0 (by decide) rfl rfl (by decide) rfl rfl (by decide) (by decide) dX5_init_53 (fun H locs hP hS => ?_)
  have hP : fP D 59 ad (cro ct ad [.ref q1, .ref q2, .ref q3, .null, .null, .null] (va_up (fun _ => none) 0 (some (ad 40)))) H := hP.ext cro_S
  rw [nq4] at hP
  refine lv_iinc (v := nI 1) (lv' := [(1, .int (nI 1)), (0, .ref q)]) hx hb dX5_init_54 hl (k := 0) rfl (nI_add 0 1) (by decide) rfl (fun ls hl => ?_)
  refine lv_goto (tgt := 36) hx hb dX5_init_57 (by decide) ?_
  refine lv_iload_n hx hb dX5_init_36 rfl (lv_at hl 0 rfl) ?_
  refine lv_iconst (v := nI 2) hx hb dX5_init_37 (by decide) ?_
  refine lv_icmp_ge (tgt := 60) hx hb dX5_init_38 (by decide) (fun h => absurd h (by decide)) (fun _ => ?_)
  refine lv_aload_n hx hb dX5_init_41 rfl (lv_at hl 1 rfl) ?_
  refine W.eq (g2 := F0 m 42 ls [.ref (ad 0)]) (by rw [had0]) ?_
  refine fr_get (k := 0) (ci := 5) (fs := [.ref q1, .ref q2, .ref q3, .null, .null, .null]) hx hb hown htg hK hP (by decide) rfl rfl inB_X5 (j := 2) (by decide) fl_X5_19 rfl rfl dX5_init_42 ?_
  refine lv_iload_n hx hb dX5_init_45 rfl (lv_at hl 0 rfl) ?_
  refine rn_new (ci := 2) (fs := [.null, .int 0, .null, .null, .null, .int 0, .int 0, .int 0]) hx hb hown htg hK hI hP hA0 hS hA rfl inB_X2 tyX2 tyX2_ok kc_X5_7 ki_X2.2.2.2.1 ki_X2.1 (fun j hj => by rcases j with _ | _ | _ | _ | _ | _ | _ | _ | j <;> first | rfl | omega) ⟨Nat.le_of_ble_eq_true rfl, Nat.le_of_ble_eq_true rfl⟩ dX5_init_46 (fun q5 H hP hI hA0 hS => ?_)
  refine lv_dup hx hb dX5_init_49 rfl ?_
  have e9 : adS ad 59 q5 59 = q5 := adS_at
  have hlt : ∀ j, j < 59 → adS ad 59 q5 j = ad j := fun j hj => adS_lt hj
  generalize adS ad 59 q5 = ad1 at hP hI hA0 e9 hlt
  refine W.eq (g2 := F0 m 50 ls [.ref (ad1 59), .ref q5, .int (nI 1), .ref q3]) (by rw [e9]) ?_
  refine rn_init (N0 := 59) (n := 19) (ce1 := fun ad => mkc ct ad iM) hx hb hml hl.1 hown htg hK hI hP hA0 hS hA hE (by decide) (by unfold va_up; exact if_pos rfl) (mX2_init l D ct (ad1 59) H.size) ki_X2.2.2.2.2.2 ki_X2.1 ki_X2.2.1 ki_X2.2.2.1 rfl ⟨by decide, by decide, by decide +kernel⟩ ⟨Nat.le_of_ble_eq_true rfl, Nat.le_of_ble_eq_true rfl⟩ (Nat.le_of_ble_eq_true rfl) dX5_init_50 ⟨Nat.le_of_ble_eq_true rfl, Nat.le_of_ble_eq_true rfl⟩ (fun ad2 H locs h9 hP hI hA0 hS => ?_)
  have hag : ∀ j, j < 59 → ad2 j = ad j := fun j hj => (h9 j (by omega)).trans (hlt j hj)
  have nq5 : ad2 59 = q5 := (h9 59 (by omega)).trans e9
  have hP : fP D 78 ad2 (cro ct ad2 [.ref q1, .ref q2, .ref q3, .null, .null, .null] (va_up (fun _ => none) 0 (some q4))) H := hP.ext (cro_J (n := 19) hag (by decide) (fun i h1 h2 => by
    unfold cro
    rw [if_neg (by omega), if_neg (by omega), if_neg (by omega), if_neg (by omega), if_neg (by omega), if_pos (by omega)]))
  have had0 := (hag 0 (by omega)).trans had0
  have nq1 := (hag 1 (by omega)).trans nq1
  have nq2 := (hag 20 (by omega)).trans nq2
  have nq3 := (hag 39 (by omega)).trans nq3
  have nq4 := (hag 40 (by omega)).trans nq4
  clear h9 hag hlt e9
  generalize ad2 = ad at hP hI hA0 had0 nq1 nq2 nq3 nq4 nq5
  refine W.eq (g2 := F0 m 53 ls [.ref (ad 59), .int (nI 1), .ref (ad 39)]) (by rw [nq5, nq3]) ?_
  refine rn_astq (k := 39) (i := 1) (len := 2) (t0 := 5) (kv := 59) (ci := 2) (vs := mkF (fun z => ad (59 + z)) iM) (f := (va_up (fun _ => none) 0 (some q4))) hx hb hK hI hP hS hA0 (by decide) rfl rfl (by decide) rfl rfl (by decide) (by decide) dX5_init_53 (fun H locs hP hS => ?_)
  have hP : fP D 78 ad (cro ct ad [.ref q1, .ref q2, .ref q3, .null, .null, .null] (va_up (va_up (fun _ => none) 0 (some q4)) 1 (some (ad 59)))) H := hP.ext cro_S
  rw [nq5] at hP
  refine lv_iinc (v := nI 2) (lv' := [(1, .int (nI 2)), (0, .ref q)]) hx hb dX5_init_54 hl (k := 0) rfl (nI_add 1 1) (by decide) rfl (fun ls hl => ?_)
  refine lv_goto (tgt := 36) hx hb dX5_init_57 (by decide) ?_
  refine lv_iload_n hx hb dX5_init_36 rfl (lv_at hl 0 rfl) ?_
  refine lv_iconst (v := nI 2) hx hb dX5_init_37 (by decide) ?_
  refine lv_icmp_ge (tgt := 60) hx hb dX5_init_38 (by decide) (fun _ => ?_) (fun h => absurd (by decide) h)
  refine lv_aload_n hx hb dX5_init_60 rfl (lv_at hl 1 rfl) ?_
  refine lv_iconst (v := nI 2) hx hb dX5_init_61 (by decide) ?_
  refine rn_newa (atype := .boolean) (ty := .boolean) (k0 := 1) (n := 2) (a0 := (2, .inl (fun _ => 0))) hx hb htg hK hI hP hA0 hS hA ac_z rfl rfl (fun _ => rfl) (by decide) (Nat.le_of_ble_eq_true rfl) ⟨Nat.le_of_ble_eq_true rfl, Nat.le_of_ble_eq_true rfl⟩ dX5_init_62 (fun q6 H hP hI hA0 hS => ?_)
  have e9 : adS ad 78 q6 78 = q6 := adS_at
  have hag : ∀ j, j < 78 → adS ad 78 q6 j = ad j := fun j hj => adS_lt hj
  have hP : fP D 79 (adS ad 78 q6) (cro ct (adS ad 78 q6) [.ref q1, .ref q2, .ref q3, .null, .null, .null] (va_up (va_up (fun _ => none) 0 (some q4)) 1 (some q5))) H := hP.ext (cro_N (g2 := (va_up (va_up (fun _ => none) 0 (some q4)) 1 (some q5))) hag (by decide) (Or.inl rfl) rfl)
  have had0 := (hag 0 (by omega)).trans had0
  have nq1 := (hag 1 (by omega)).trans nq1
  have nq2 := (hag 20 (by omega)).trans nq2
  have nq3 := (hag 39 (by omega)).trans nq3
  have nq4 := (hag 40 (by omega)).trans nq4
  have nq5 := (hag 59 (by omega)).trans nq5
  clear hag
  have nq6 := e9
  clear e9
  generalize adS ad 78 q6 = ad at hP hI hA0 had0 nq1 nq2 nq3 nq4 nq5 nq6
  refine W.eq (g2 := F0 m 64 ls [.ref q6, .ref (ad 0)]) (by rw [had0]) ?_
  refine rn_putF (k := 0) (N := 79) (ad := ad) (ci := 5) (fs := [.ref q1, .ref q2, .ref q3, .null, .null, .null]) (ty := .array .boolean) (v := .ref q6) hx hb hown htg hK hI hP hS hA0 hin (by decide) rfl rfl inB_X5 tyX5 tyX5_ok nmX5 (j := 3) (by decide) fl_X5_23 rfl rfl rfl rfl rfl rfl (Nat.le_of_ble_eq_true rfl) dX5_init_64 (fun H locs hP hS => ?_)
  have hP : fP D 79 ad (cro ct ad [.ref q1, .ref q2, .ref q3, .ref q6, .null, .null] (va_up (va_up (fun _ => none) 0 (some q4)) 1 (some q5))) H := hP.ext cro_F
  refine lv_aload_n hx hb dX5_init_67 rfl (lv_at hl 1 rfl) ?_
  refine rn_new (ci := 1) (fs := [.null, .int 0, .int 0]) hx hb hown htg hK hI hP hA0 hS hA rfl inB_X1 tyX1 tyX1_ok kc_X5_27 ki_X5.2.2.2.1 ki_X5.1 (fun j hj => by rcases j with _ | _ | _ | j <;> first | rfl | omega) ⟨Nat.le_of_ble_eq_true rfl, Nat.le_of_ble_eq_true rfl⟩ dX5_init_68 (fun q7 H hP hI hA0 hS => ?_)
  refine lv_dup hx hb dX5_init_71 rfl ?_
  have e9 : adS ad 79 q7 79 = q7 := adS_at
  have hlt : ∀ j, j < 79 → adS ad 79 q7 j = ad j := fun j hj => adS_lt hj
  generalize adS ad 79 q7 = ad1 at hP hI hA0 e9 hlt
  refine W.eq (g2 := F0 m 72 ls [.ref (ad1 79), .ref q7, .ref q]) (by rw [e9]) ?_
  refine rn_init (N0 := 79) (n := 116) (ce1 := fun ad => hip ct ad 6) hx hb hml hl.1 hown htg hK hI hP hA0 hS hA hE (by decide) (by unfold va_up; exact if_pos rfl) (mX1_init l D ct (ad1 79) H.size) ki_X5.2.2.2.2 ki_X5.1 ki_X5.2.1 ki_X5.2.2.1 rfl ⟨by decide, by decide, by decide +kernel⟩ ⟨Nat.le_of_ble_eq_true rfl, Nat.le_of_ble_eq_true rfl⟩ (Nat.le_of_ble_eq_true rfl) dX5_init_72 ⟨Nat.le_of_ble_eq_true rfl, Nat.le_of_ble_eq_true rfl⟩ (fun ad2 H locs h9 hP hI hA0 hS => ?_)
  have hag : ∀ j, j < 79 → ad2 j = ad j := fun j hj => (h9 j (by omega)).trans (hlt j hj)
  have nq7 : ad2 79 = q7 := (h9 79 (by omega)).trans e9
  have hP : fP D 195 ad2 (cro ct ad2 [.ref q1, .ref q2, .ref q3, .ref q6, .null, .null] (va_up (va_up (fun _ => none) 0 (some q4)) 1 (some q5))) H := hP.ext (cro_J (n := 116) hag (by decide) (fun i h1 h2 => by
    unfold cro
    rw [if_neg (by omega), if_neg (by omega), if_neg (by omega), if_neg (by omega), if_neg (by omega), if_neg (by omega), if_neg (by omega), if_pos (by omega)]))
  have had0 := (hag 0 (by omega)).trans had0
  have nq1 := (hag 1 (by omega)).trans nq1
  have nq2 := (hag 20 (by omega)).trans nq2
  have nq3 := (hag 39 (by omega)).trans nq3
  have nq4 := (hag 40 (by omega)).trans nq4
  have nq5 := (hag 59 (by omega)).trans nq5
  have nq6 := (hag 78 (by omega)).trans nq6
  clear h9 hag hlt e9
  generalize ad2 = ad at hP hI hA0 had0 nq1 nq2 nq3 nq4 nq5 nq6 nq7
  refine W.eq (g2 := F0 m 75 ls [.ref q7, .ref (ad 0)]) (by rw [had0]) ?_
  refine rn_putF (k := 0) (N := 195) (ad := ad) (ci := 5) (fs := [.ref q1, .ref q2, .ref q3, .ref q6, .null, .null]) (ty := .object RX1) (v := .ref q7) hx hb hown htg hK hI hP hS hA0 hin (by decide) rfl rfl inB_X5 tyX5 tyX5_ok nmX5 (j := 4) (by decide) fl_X5_30 rfl rfl rfl rfl rfl rfl (Nat.le_of_ble_eq_true rfl) dX5_init_75 (fun H locs hP hS => ?_)
  have hP : fP D 195 ad (cro ct ad [.ref q1, .ref q2, .ref q3, .ref q6, .ref q7, .null] (va_up (va_up (fun _ => none) 0 (some q4)) 1 (some q5))) H := hP.ext cro_F
  refine lv_aload_n hx hb dX5_init_78 rfl (lv_at hl 1 rfl) ?_
  refine rn_new (ci := 3) (fs := [.null, .int 0, .int 0, .int 0, .null]) hx hb hown htg hK hI hP hA0 hS hA rfl inB_X3 tyX3 tyX3_ok kc_X5_34 ki_X3.2.2.2 ki_X3.1 (fun j hj => by rcases j with _ | _ | _ | _ | _ | j <;> first | rfl | omega) ⟨Nat.le_of_ble_eq_true rfl, Nat.le_of_ble_eq_true rfl⟩ dX5_init_79 (fun q8 H hP hI hA0 hS => ?_)
  refine lv_dup hx hb dX5_init_82 rfl ?_
  have e9 : adS ad 195 q8 195 = q8 := adS_at
  have hlt : ∀ j, j < 195 → adS ad 195 q8 j = ad j := fun j hj => adS_lt hj
  generalize adS ad 195 q8 = ad1 at hP hI hA0 e9 hlt
  refine W.eq (g2 := F0 m 83 ls [.ref (ad1 195), .ref q8, .ref q]) (by rw [e9]) ?_
  refine rn_initN (N0 := 195) (n := 3) (ce1 := fun ad => ptc ct ad (fun _ => 0) (fun _ => 0) 0 0 0) hx hb hml hl.1 hown htg hK hI hP hA0 hS hA hE (by decide) (by unfold va_up; exact if_pos rfl) (mX3_init l D ct (ad1 195) H.size) mn3 ki_X3.1 ki_X3.2.1 ki_X3.2.2.1 rfl ⟨by decide, by decide, by decide +kernel⟩ ⟨Nat.le_of_ble_eq_true rfl, Nat.le_of_ble_eq_true rfl⟩ (Nat.le_of_ble_eq_true rfl) dX5_init_83 ⟨Nat.le_of_ble_eq_true rfl, Nat.le_of_ble_eq_true rfl⟩ (fun ad2 H locs h9 hP hI hA0 hS => ?_)
  have hag : ∀ j, j < 195 → ad2 j = ad j := fun j hj => (h9 j (by omega)).trans (hlt j hj)
  have nq8 : ad2 195 = q8 := (h9 195 (by omega)).trans e9
  have hP : fP D 198 ad2 (cro ct ad2 [.ref q1, .ref q2, .ref q3, .ref q6, .ref q7, .null] (va_up (va_up (fun _ => none) 0 (some q4)) 1 (some q5))) H := hP.ext (cro_J (n := 3) hag (by decide) (fun i h1 h2 => by
    unfold cro
    rw [if_neg (by omega), if_neg (by omega), if_neg (by omega), if_neg (by omega), if_neg (by omega), if_neg (by omega), if_neg (by omega), if_neg (by omega)]))
  have had0 := (hag 0 (by omega)).trans had0
  have nq1 := (hag 1 (by omega)).trans nq1
  have nq2 := (hag 20 (by omega)).trans nq2
  have nq3 := (hag 39 (by omega)).trans nq3
  have nq4 := (hag 40 (by omega)).trans nq4
  have nq5 := (hag 59 (by omega)).trans nq5
  have nq6 := (hag 78 (by omega)).trans nq6
  have nq7 := (hag 79 (by omega)).trans nq7
  clear h9 hag hlt e9
  generalize ad2 = ad at hP hI hA0 had0 nq1 nq2 nq3 nq4 nq5 nq6 nq7 nq8
  refine W.eq (g2 := F0 m 86 ls [.ref q8, .ref (ad 0)]) (by rw [had0]) ?_
  refine rn_putF (k := 0) (N := 198) (ad := ad) (ci := 5) (fs := [.ref q1, .ref q2, .ref q3, .ref q6, .ref q7, .null]) (ty := .object RX3) (v := .ref q8) hx hb hown htg hK hI hP hS hA0 hin (by decide) rfl rfl inB_X5 tyX5 tyX5_ok nmX5 (j := 5) (by decide) fl_X5_37 rfl rfl rfl rfl rfl rfl (Nat.le_of_ble_eq_true rfl) dX5_init_86 (fun H locs hP hS => ?_)
  have hP : fP D 198 ad (cro ct ad [.ref q1, .ref q2, .ref q3, .ref q6, .ref q7, .ref q8] (va_up (va_up (fun _ => none) 0 (some q4)) 1 (some q5))) H := hP.ext cro_F
  rw [← nq1, ← nq2, ← nq3, ← nq4, ← nq5, ← nq6, ← nq7, ← nq8] at hP
  exact rn_ret (ad := fun i => ad (cri i)) hx hb hr hlocks hsz had0 (fun i j hi hj h => cri_inj hi hj (hI _ _ (cri_lt hi) (cri_lt hj) h)) (fun k hk => hA0 _ (cri_lt hk)) hS dX5_init_89 (cro_csc hP) rfl rfl

