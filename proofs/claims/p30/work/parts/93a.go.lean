/-! THE LAW: what hours bring at a socket -/
/-- four rows more: the second group of names -/
def gw (ct : Nat → ClassId) (Z : Nat → Int32) (r : Int32) (f5 f6 f7 f8 : Nat → Int32) : Nat → va_E := fun i => if i < 5 then lwc ct Z r i else if i = 5 then .inl (ct 0, 60, .inl f5) else if i = 6 then .inl (ct 0, 20, .inl f6) else if i = 7 then .inl (ct 0, 20, .inl f7) else .inl (ct 0, 7, .inl f8)
def g9 (ct : Nat → ClassId) (Z Y : Nat → Int32) (r : Int32) : Nat → va_E := gw ct Z r (vwA Y) (vwM Y) (vwB Y) (vwT Y)
def nmY (z : Nat) : Nat := if z = 3 then 3 else if z = 4 then 8 else z + 5
theorem nmY_9 : ∀ z, z < 5 → nmY z < 9 := fun z h => by unfold nmY; (repeat' split) <;> omega
theorem nmY_inj : ∀ i j, i < 5 → j < 5 → nmY i = nmY j → i = j := fun i j _ _ h => by unfold nmY at h; split at h <;> split at h <;> (repeat' split at h) <;> omega
theorem g9_Y {ct : Nat → ClassId} {Z Y : Nat → Int32} {r : Int32} : ∀ z, z < 5 → g9 ct Z Y r (nmY z) = lwc ct Y r z := fun z h => by
  rcases (show z = 0 ∨ z = 1 ∨ z = 2 ∨ z = 3 ∨ z = 4 by omega) with rfl | rfl | rfl | rfl | rfl <;> rfl
theorem g9_Yo {ct : Nat → ClassId} {Z Y X : Nat → Int32} {r : Int32} : ∀ i, i < 9 → (∀ z, z < 5 → i ≠ nmY z) → g9 ct Z X r i = g9 ct Z Y r i := fun i h ho => by
  have h0 := ho 0 (by omega)
  have h1 := ho 1 (by omega)
  have h2 := ho 2 (by omega)
  have h4 := ho 4 (by omega)
  have e0 : nmY 0 = 5 := rfl
  have e1 : nmY 1 = 6 := rfl
  have e2 : nmY 2 = 7 := rfl
  have e4 : nmY 4 = 8 := rfl
  unfold g9 gw
  rw [if_pos (by omega), if_pos (by omega)]
theorem g9_Z {ct : Nat → ClassId} {Z Y : Nat → Int32} {r : Int32} : ∀ z, z < 5 → g9 ct Z Y r (0 + z) = lwc ct Z r z := fun z h => by
  unfold g9 gw; rw [if_pos (by omega), Nat.zero_add]
theorem z9 : ∀ z, z < 5 → (fun z => 0 + z) z < 9 := fun z h => by show 0 + z < 9; omega
theorem z9_inj : ∀ i j, i < 5 → j < 5 → (fun z => 0 + z) i = (fun z => 0 + z) j → i = j := fun i j _ _ h => by
  have h : 0 + i = 0 + j := h
  omega
theorem g9_left {D : va_G} {ct : Nat → ClassId} {ad af : Nat → Nat} {Z Y : Nat → Int32} {r : Int32} {H : Heap} (haf : ∀ k, k < 5 → af k = ad k) (h : fP D 9 af (g9 ct Z Y r) H) : fP D 5 ad (lwc ct Z r) H := fP.of fun z hz => by
  have h1 := h.at (show z < 9 by omega)
  rw [haf z hz] at h1
  have h2 := g9_Z (ct := ct) (Z := Z) (Y := Y) (r := r) z hz
  rw [Nat.zero_add] at h2
  rw [h2] at h1
  exact h1
/-- a number of the second group written -/
theorem g9_sA {ct : Nat → ClassId} {Z Y : Nat → Int32} {r x : Int32} {k j : Nat} (hk : k < 10) (hj : j < 6) : ∀ i, i < 9 → va_up (g9 ct Z Y r) 5 (.inl (ct 0, 60, .inl (upd (vwA Y) (6 * k + j) x))) i = g9 ct Z (upd Y (39 + 8 * k + j) x) r i := by
  intro i hi
  have eM : vwM (upd Y (39 + 8 * k + j) x) = vwM Y := vwM_no (fun _ _ _ _ => by omega)
  have eB : vwB (upd Y (39 + 8 * k + j) x) = vwB Y := vwB_no (fun _ _ => by omega)
  have eT : vwT (upd Y (39 + 8 * k + j) x) = vwT Y := vwT_no (by omega)
  unfold g9
  rw [← vwA_upd hk hj, eM, eB, eT]
  unfold va_up gw
  by_cases e : i = 5
  · subst e; rfl
  · rw [if_neg e]
    by_cases c : i < 5
    · rw [if_pos c, if_pos c]
    · rw [if_neg c, if_neg c, if_neg e, if_neg e]
theorem g9_sB {ct : Nat → ClassId} {Z Y : Nat → Int32} {r x : Int32} {k j : Nat} (hk : k < 4) (hj : j < 5) : ∀ i, i < 9 → va_up (g9 ct Z Y r) 7 (.inl (ct 0, 20, .inl (upd (vwB Y) (5 * k + j) x))) i = g9 ct Z (upd Y (7 + 5 * k + j) x) r i := by
  intro i hi
  have eM : vwM (upd Y (7 + 5 * k + j) x) = vwM Y := vwM_no (fun _ _ _ _ => by omega)
  have eA : vwA (upd Y (7 + 5 * k + j) x) = vwA Y := vwA_no (fun _ _ _ _ => by omega)
  have eT : vwT (upd Y (7 + 5 * k + j) x) = vwT Y := vwT_no (by omega)
  unfold g9
  rw [← vwB_upd hk hj, eM, eA, eT]
  unfold va_up gw
  by_cases e : i = 7
  · subst e; rfl
  · rw [if_neg e]
    by_cases c : i < 5
    · rw [if_pos c, if_pos c]
    · rw [if_neg c, if_neg c]
      by_cases c5 : i = 5
      · rw [if_pos c5, if_pos c5]
      · rw [if_neg c5, if_neg c5]
        by_cases c6 : i = 6
        · rw [if_pos c6, if_pos c6]
        · rw [if_neg c6, if_neg c6, if_neg e, if_neg e]
theorem lG_hs {r : Int32} {Y : Nat → Int32} {n h0 i : Nat} (hg : lG r Y n) (hO : oI Y n) (ho : hOn Y) (hb : bN Y n h0) (hh : h0 + i < 1000000) : oI (hsZ Y n i) n ∧ hOn (hsZ Y n i) ∧ lG r (hsZ Y n i) n := by
  obtain ⟨-, k1, k2⟩ := hs_all (M := Y) (fun _ _ => rfl) hO ho i
  refine ⟨k1, k2, hsZ_zW hg.1 i, fun q hq => ?_, ⟨h0 + i, hh, (hs_bN hO ho hb i).1⟩, fun k hk => ?_⟩
  · rw [hs_at hg.1 (by omega) (by omega) (by omega) (fun k => ⟨by omega, by omega, by omega⟩) (fun c hc => ⟨by omega, by omega, by omega, by omega⟩)]; exact hg.2.1 q hq
  · rw [hs_at hg.1 (by omega) (by omega) (by omega) (fun k => ⟨by omega, by omega, by omega⟩) (fun c hc => ⟨by omega, by omega, by omega, by omega⟩), hs_at hg.1 (by omega) (by omega) (by omega) (fun k => ⟨by omega, by omega, by omega⟩) (fun c hc => ⟨by omega, by omega, by omega, by omega⟩)]; exact hg.2.2.2 k hk
theorem lG_wp {r : Int32} {Z : Nat → Int32} {n k q : Nat} (hg : lG r Z n) (hk : k < n) (hq : q < 12) : lG r (wpY Z k q) n :=
  ⟨wpY_zW hg.1 hk hq, fun s hs => by show _ ↔ upd Z (39 + 8 * k + 4) (nI q) (27 + s) = nI 1; rw [upd_n (by omega)]; exact hg.2.1 s hs, by show ∃ h, h < 1000000 ∧ upd Z (39 + 8 * k + 4) (nI q) 3 = nI h; rw [upd_n (by omega)]; exact hg.2.2.1, fun j hj => by
    show (∃ f, f < 24 ∧ upd Z (39 + 8 * k + 4) (nI q) (39 + 8 * j + 1) = nI f) ∧ ∃ t, t < 24 ∧ upd Z (39 + 8 * k + 4) (nI q) (39 + 8 * j + 2) = nI t
    rw [upd_n (by omega), upd_n (by omega)]; exact hg.2.2.2 j hj⟩
/-- dark hours more -/
def dkS (X Z : Nat → Int32) : Nat → Int32
  | 0 => 0
  | i + 1 => dkS X Z i + (X (39 + 8 * i + 7) - Z (39 + 8 * i + 7))
def goV (Z : Nat → Int32) (n k q tm : Nat) : Int64 := 1000000 * Int32.toInt64 (hsZ (wpY Z k q) n tm (39 + 8 * k + 6) - Z (39 + 8 * k + 6)) + 1000 * Int32.toInt64 (dkS (hsZ (wpY Z k q) n tm) Z n) + Int32.toInt64 (hsT (wpY Z k q) n tm)
set_option maxRecDepth 100000 in
set_option maxHeartbeats 8000000 in
theorem mL_goOn (l : Launch) (D : va_G) (ct : Nat → ClassId) (ad : Nat → Nat) (sz : Nat) (Z : Nat → Int32) (r : Int32) (n k q tm h0 : Nat) (hO : oI Z n) (ho : hOn Z) (hg : lG r Z n) (hb0 : bN Z n h0) (hh0 : h0 + tm < 1000000) (hk : k < n) (hq : q < 12) (htm : tm < 1000) : NMet l yL_goOn cL_goOn 15 (some .long) 4 103 4 107 D ct 5 ad sz [.ref (ad 0), .ref (ad 1), .ref (ad 2), .ref (ad 3), .ref (ad 4), .int (nI k), .int (nI q), .int (nI tm)] (lwc ct Z r) (some (.long (goV Z n k q tm))) (lwc ct Z r) := by
  refine NMet.of (by decide +kernel) (Nat.le_of_ble_eq_true rfl) ?_
  intro p e s m args below meth c ls hx hb hr hml hown hlocks htg hK hI hP hS hsz hl
  have hl : lv_has ls 15 [(0, .ref (ad 0)), (1, .ref (ad 1)), (2, .ref (ad 2)), (3, .ref (ad 3)), (4, .ref (ad 4)), (5, .int (nI k)), (6, .int (nI q)), (7, .int (nI tm))] := hl
  have hn10 := hg.1.1
  have hI5 := hI
  have hA : ∀ q : Nat, s.heap.size ≤ q → nF 5 ad sz q := fun q h => Or.inr (by omega)
  have hA0 : ∀ k, k < 5 → nF 5 ad sz (ad k) := fun k h => Or.inl (fA_in h)
  have hYs : ∀ i, i ≤ tm → oI (hsZ (wpY Z k q) n i) n ∧ hOn (hsZ (wpY Z k q) n i) ∧ lG r (hsZ (wpY Z k q) n i) n := fun i hi => lG_hs (lG_wp hg hk hq) (wpY_oI hO hk hq) (wpY_hOn (n := n) ho) (wpY_bN hb0) (by omega)
  refine lv_bipush (v := nI 60) hx hb dL_goOn_0 (by decide) ?_
  refine rn_newa (atype := .int) (ty := .int) (k0 := 0) (n := 60) (a0 := (60, .inl (fun _ => 0))) hx hb htg hK hI hP hA0 hS hA ac_i rfl rfl (fun _ => rfl) (by decide) (Nat.le_of_ble_eq_true rfl) ⟨Nat.le_of_ble_eq_true rfl, Nat.le_of_ble_eq_true rfl⟩ dL_goOn_2 (fun q1 H hP hI hA0 hS => ?_)
  obtain ⟨am1, ee1⟩ : ∃ z9, adS ad 5 q1 = z9 := ⟨_, rfl⟩
  have qe1 : q1 = am1 5 := by rw [← ee1]; exact adS_at.symm
  have hs1 : ∀ k, k < 5 → am1 k = ad k := fun k hk => by rw [← ee1]; exact adS_lt hk
  rw [ee1] at hP hI hA0
  rw [qe1]
  refine lv_astore (lv' := [(8, .ref (am1 5)), (0, .ref (ad 0)), (1, .ref (ad 1)), (2, .ref (ad 2)), (3, .ref (ad 3)), (4, .ref (ad 4)), (5, .int (nI k)), (6, .int (nI q)), (7, .int (nI tm))]) hx hb dL_goOn_4 hl (by decide) rfl (fun ls hl => ?_)
  refine lv_bipush (v := nI 20) hx hb dL_goOn_6 (by decide) ?_
  refine rn_newa (atype := .int) (ty := .int) (k0 := 0) (n := 20) (a0 := (20, .inl (fun _ => 0))) hx hb htg hK hI hP hA0 hS hA ac_i rfl rfl (fun _ => rfl) (by decide) (Nat.le_of_ble_eq_true rfl) ⟨Nat.le_of_ble_eq_true rfl, Nat.le_of_ble_eq_true rfl⟩ dL_goOn_8 (fun q2 H hP hI hA0 hS => ?_)
  obtain ⟨am2, ee2⟩ : ∃ z9, adS am1 6 q2 = z9 := ⟨_, rfl⟩
  have qe2 : q2 = am2 6 := by rw [← ee2]; exact adS_at.symm
  have hs2 : ∀ k, k < 6 → am2 k = am1 k := fun k hk => by rw [← ee2]; exact adS_lt hk
  rw [ee2] at hP hI hA0
  rw [qe2]
  refine lv_astore (lv' := [(9, .ref (am2 6)), (8, .ref (am1 5)), (0, .ref (ad 0)), (1, .ref (ad 1)), (2, .ref (ad 2)), (3, .ref (ad 3)), (4, .ref (ad 4)), (5, .int (nI k)), (6, .int (nI q)), (7, .int (nI tm))]) hx hb dL_goOn_10 hl (by decide) rfl (fun ls hl => ?_)
  refine lv_bipush (v := nI 20) hx hb dL_goOn_12 (by decide) ?_
  refine rn_newa (atype := .int) (ty := .int) (k0 := 0) (n := 20) (a0 := (20, .inl (fun _ => 0))) hx hb htg hK hI hP hA0 hS hA ac_i rfl rfl (fun _ => rfl) (by decide) (Nat.le_of_ble_eq_true rfl) ⟨Nat.le_of_ble_eq_true rfl, Nat.le_of_ble_eq_true rfl⟩ dL_goOn_14 (fun q3 H hP hI hA0 hS => ?_)
  obtain ⟨am3, ee3⟩ : ∃ z9, adS am2 7 q3 = z9 := ⟨_, rfl⟩
  have qe3 : q3 = am3 7 := by rw [← ee3]; exact adS_at.symm
  have hs3 : ∀ k, k < 7 → am3 k = am2 k := fun k hk => by rw [← ee3]; exact adS_lt hk
  rw [ee3] at hP hI hA0
  rw [qe3]
  refine lv_astore (lv' := [(10, .ref (am3 7)), (9, .ref (am2 6)), (8, .ref (am1 5)), (0, .ref (ad 0)), (1, .ref (ad 1)), (2, .ref (ad 2)), (3, .ref (ad 3)), (4, .ref (ad 4)), (5, .int (nI k)), (6, .int (nI q)), (7, .int (nI tm))]) hx hb dL_goOn_16 hl (by decide) rfl (fun ls hl => ?_)
  refine lv_bipush (v := nI 7) hx hb dL_goOn_18 (by decide) ?_
  refine rn_newa (atype := .int) (ty := .int) (k0 := 0) (n := 7) (a0 := (7, .inl (fun _ => 0))) hx hb htg hK hI hP hA0 hS hA ac_i rfl rfl (fun _ => rfl) (by decide) (Nat.le_of_ble_eq_true rfl) ⟨Nat.le_of_ble_eq_true rfl, Nat.le_of_ble_eq_true rfl⟩ dL_goOn_20 (fun q4 H hP hI hA0 hS => ?_)
  obtain ⟨af, ee4⟩ : ∃ z9, adS am3 8 q4 = z9 := ⟨_, rfl⟩
  have qe4 : q4 = af 8 := by rw [← ee4]; exact adS_at.symm
  have hs4 : ∀ k, k < 8 → af k = am3 k := fun k hk => by rw [← ee4]; exact adS_lt hk
  rw [ee4] at hP hI hA0
  rw [qe4]
  refine lv_astore (lv' := [(11, .ref (af 8)), (10, .ref (am3 7)), (9, .ref (am2 6)), (8, .ref (am1 5)), (0, .ref (ad 0)), (1, .ref (ad 1)), (2, .ref (ad 2)), (3, .ref (ad 3)), (4, .ref (ad 4)), (5, .int (nI k)), (6, .int (nI q)), (7, .int (nI tm))]) hx hb dL_goOn_22 hl (by decide) rfl (fun ls hl => ?_)
  have haf : ∀ k, k < 5 → af k = ad k := fun k hk => by rw [hs4 k (by omega), hs3 k (by omega), hs2 k (by omega), hs1 k hk]
  have g5 : am1 5 = af 5 := by rw [hs4 5 (by omega), hs3 5 (by omega), hs2 5 (by omega)]
  have g6 : am2 6 = af 6 := by rw [hs4 6 (by omega), hs3 6 (by omega)]
  have g7 : am3 7 = af 7 := by rw [hs4 7 (by omega)]
  rw [g5, g6, g7, ← haf 0 (by omega), ← haf 1 (by omega), ← haf 2 (by omega), ← haf 3 (by omega), ← haf 4 (by omega)] at hl
  have hl : lv_has ls 15 [(11, .ref (af 8)), (10, .ref (af 7)), (9, .ref (af 6)), (8, .ref (af 5)), (0, .ref (af 0)), (1, .ref (af 1)), (2, .ref (af 2)), (3, .ref (af 3)), (4, .ref (af 4)), (5, .int (nI k)), (6, .int (nI q)), (7, .int (nI tm))] := hl
  have hP : fP D 9 af (gw ct Z r (fun _ => 0) (fun _ => 0) (fun _ => 0) (fun _ => 0)) H := hP.ext (fun i hi => by
    rcases (show i < 5 ∨ i = 5 ∨ i = 6 ∨ i = 7 ∨ i = 8 by omega) with c | rfl | rfl | rfl | rfl
    · rw [va_up_ne _ _ (by omega), va_up_ne _ _ (by omega), va_up_ne _ _ (by omega), va_up_ne _ _ (by omega)]; exact (if_pos c).symm
    all_goals rfl)
  refine lv_aload_n hx hb dL_goOn_24 rfl (lv_at hl 4 rfl) ?_
  refine lv_aload hx hb dL_goOn_25 (lv_at hl 3 rfl) ?_
  refine nw_S0 (N1 := 2) (nm := fun z => if z = 0 then 0 else 5) (ce1 := cp2 ct 60 (vwA Z) (fun _ => 0)) (ce1' := cp2 ct 60 (vwA Z) (vwA Z)) (ce' := gw ct Z r (vwA Z) (fun _ => 0) (fun _ => 0) (fun _ => 0)) (As := [.ref (af 0), .ref (af 5)]) (rest := []) hx hb hml hown htg hK hI hP hS hA0 hl.1 (fun z hz => by show (if z = 0 then _ else _) < 9; split <;> omega) (fun i j hi hj h => by have h : (if i = 0 then 0 else 5) = (if j = 0 then 0 else 5) := h; split at h <;> split at h <;> omega) (fun z hz => by rcases (show z = 0 ∨ z = 1 by omega) with rfl | rfl <;> rfl) (fun z hz => by rcases (show z = 0 ∨ z = 1 by omega) with rfl | rfl <;> rfl) (fun i hi ho => by have h1 : i ≠ 5 := ho 1 (by omega); rcases (show i < 5 ∨ i = 5 ∨ i = 6 ∨ i = 7 ∨ i = 8 by omega) with c | rfl | rfl | rfl | rfl <;> first | rfl | exact absurd rfl h1 | (unfold gw; rw [if_pos c, if_pos c])) (mL_copy l D ct _ 60 (vwA Z) (fun _ => 0) (by omega)) cw_L_50 rfl rfl ⟨Nat.le_of_ble_eq_true rfl, Nat.le_of_ble_eq_true rfl⟩ (Nat.le_of_ble_eq_true rfl) dL_goOn_27 ⟨Nat.le_of_ble_eq_true rfl, Nat.le_of_ble_eq_true rfl⟩ (fun H locs hP hS => ?_)
  refine lv_aload_n hx hb dL_goOn_30 rfl (lv_at hl 5 rfl) ?_
  refine lv_aload hx hb dL_goOn_31 (lv_at hl 2 rfl) ?_
  refine nw_S0 (N1 := 2) (nm := fun z => if z = 0 then 1 else 6) (ce1 := cp2 ct 20 (vwM Z) (fun _ => 0)) (ce1' := cp2 ct 20 (vwM Z) (vwM Z)) (ce' := gw ct Z r (vwA Z) (vwM Z) (fun _ => 0) (fun _ => 0)) (As := [.ref (af 1), .ref (af 6)]) (rest := []) hx hb hml hown htg hK hI hP hS hA0 hl.1 (fun z hz => by show (if z = 0 then _ else _) < 9; split <;> omega) (fun i j hi hj h => by have h : (if i = 0 then 1 else 6) = (if j = 0 then 1 else 6) := h; split at h <;> split at h <;> omega) (fun z hz => by rcases (show z = 0 ∨ z = 1 by omega) with rfl | rfl <;> rfl) (fun z hz => by rcases (show z = 0 ∨ z = 1 by omega) with rfl | rfl <;> rfl) (fun i hi ho => by have h1 : i ≠ 6 := ho 1 (by omega); rcases (show i < 5 ∨ i = 5 ∨ i = 6 ∨ i = 7 ∨ i = 8 by omega) with c | rfl | rfl | rfl | rfl <;> first | rfl | exact absurd rfl h1 | (unfold gw; rw [if_pos c, if_pos c])) (mL_copy l D ct _ 20 (vwM Z) (fun _ => 0) (by omega)) cw_L_50 rfl rfl ⟨Nat.le_of_ble_eq_true rfl, Nat.le_of_ble_eq_true rfl⟩ (Nat.le_of_ble_eq_true rfl) dL_goOn_33 ⟨Nat.le_of_ble_eq_true rfl, Nat.le_of_ble_eq_true rfl⟩ (fun H locs hP hS => ?_)
  refine lv_aload_n hx hb dL_goOn_36 rfl (lv_at hl 6 rfl) ?_
  refine lv_aload hx hb dL_goOn_37 (lv_at hl 1 rfl) ?_
  refine nw_S0 (N1 := 2) (nm := fun z => if z = 0 then 2 else 7) (ce1 := cp2 ct 20 (vwB Z) (fun _ => 0)) (ce1' := cp2 ct 20 (vwB Z) (vwB Z)) (ce' := gw ct Z r (vwA Z) (vwM Z) (vwB Z) (fun _ => 0)) (As := [.ref (af 2), .ref (af 7)]) (rest := []) hx hb hml hown htg hK hI hP hS hA0 hl.1 (fun z hz => by show (if z = 0 then _ else _) < 9; split <;> omega) (fun i j hi hj h => by have h : (if i = 0 then 2 else 7) = (if j = 0 then 2 else 7) := h; split at h <;> split at h <;> omega) (fun z hz => by rcases (show z = 0 ∨ z = 1 by omega) with rfl | rfl <;> rfl) (fun z hz => by rcases (show z = 0 ∨ z = 1 by omega) with rfl | rfl <;> rfl) (fun i hi ho => by have h1 : i ≠ 7 := ho 1 (by omega); rcases (show i < 5 ∨ i = 5 ∨ i = 6 ∨ i = 7 ∨ i = 8 by omega) with c | rfl | rfl | rfl | rfl <;> first | rfl | exact absurd rfl h1 | (unfold gw; rw [if_pos c, if_pos c])) (mL_copy l D ct _ 20 (vwB Z) (fun _ => 0) (by omega)) cw_L_50 rfl rfl ⟨Nat.le_of_ble_eq_true rfl, Nat.le_of_ble_eq_true rfl⟩ (Nat.le_of_ble_eq_true rfl) dL_goOn_39 ⟨Nat.le_of_ble_eq_true rfl, Nat.le_of_ble_eq_true rfl⟩ (fun H locs hP hS => ?_)
  refine lv_aload hx hb dL_goOn_42 (lv_at hl 8 rfl) ?_
  refine lv_aload hx hb dL_goOn_44 (lv_at hl 0 rfl) ?_
  refine nw_S0 (N1 := 2) (nm := fun z => if z = 0 then 4 else 8) (ce1 := cp2 ct 7 (vwT Z) (fun _ => 0)) (ce1' := cp2 ct 7 (vwT Z) (vwT Z)) (ce' := gw ct Z r (vwA Z) (vwM Z) (vwB Z) (vwT Z)) (As := [.ref (af 4), .ref (af 8)]) (rest := []) hx hb hml hown htg hK hI hP hS hA0 hl.1 (fun z hz => by show (if z = 0 then _ else _) < 9; split <;> omega) (fun i j hi hj h => by have h : (if i = 0 then 4 else 8) = (if j = 0 then 4 else 8) := h; split at h <;> split at h <;> omega) (fun z hz => by rcases (show z = 0 ∨ z = 1 by omega) with rfl | rfl <;> rfl) (fun z hz => by rcases (show z = 0 ∨ z = 1 by omega) with rfl | rfl <;> rfl) (fun i hi ho => by have h1 : i ≠ 8 := ho 1 (by omega); rcases (show i < 5 ∨ i = 5 ∨ i = 6 ∨ i = 7 ∨ i = 8 by omega) with c | rfl | rfl | rfl | rfl <;> first | rfl | exact absurd rfl h1 | (unfold gw; rw [if_pos c, if_pos c])) (mL_copy l D ct _ 7 (vwT Z) (fun _ => 0) (by omega)) cw_L_50 rfl rfl ⟨Nat.le_of_ble_eq_true rfl, Nat.le_of_ble_eq_true rfl⟩ (Nat.le_of_ble_eq_true rfl) dL_goOn_46 ⟨Nat.le_of_ble_eq_true rfl, Nat.le_of_ble_eq_true rfl⟩ (fun H locs hP hS => ?_)
  have hP : fP D 9 af (g9 ct Z Z r) H := hP
  refine lv_aload hx hb dL_goOn_49 (lv_at hl 3 rfl) ?_
  refine lv_bipush (v := nI 6) hx hb dL_goOn_51 (by decide) ?_
  refine lv_iload hx hb dL_goOn_53 (lv_at hl 9 rfl) ?_
  refine lv_imulN hx hb dL_goOn_55 ?_
  refine lv_iconst (v := nI 4) hx hb dL_goOn_56 (by decide) ?_
  refine lv_iaddN hx hb dL_goOn_57 ?_
  refine lv_iload hx hb dL_goOn_58 (lv_at hl 10 rfl) ?_
  refine fr_iast (k := 5) (f := vwA Z) hx hb hK hI hP hS hA0 (by decide) rfl (by omega) (by decide) dL_goOn_60 (g9_sA (by omega) (by omega)) (fun H locs hP hS => ?_)
  have hP : fP D 9 af (g9 ct Z (wpY Z k q) r) H := hP
  refine lv_iconst (v := nI 0) hx hb dL_goOn_61 (by decide) ?_
  refine lv_istore (lv' := [(12, .int (nI 0)), (11, .ref (af 8)), (10, .ref (af 7)), (9, .ref (af 6)), (8, .ref (af 5)), (0, .ref (af 0)), (1, .ref (af 1)), (2, .ref (af 2)), (3, .ref (af 3)), (4, .ref (af 4)), (5, .int (nI k)), (6, .int (nI q)), (7, .int (nI tm))]) hx hb dL_goOn_62 hl (by decide) rfl (fun ls hl => ?_)
  refine lv_iconst (v := nI 0) hx hb dL_goOn_64 (by decide) ?_
  refine lv_istore (lv' := [(13, .int (nI 0)), (12, .int (nI 0)), (11, .ref (af 8)), (10, .ref (af 7)), (9, .ref (af 6)), (8, .ref (af 5)), (0, .ref (af 0)), (1, .ref (af 1)), (2, .ref (af 2)), (3, .ref (af 3)), (4, .ref (af 4)), (5, .int (nI k)), (6, .int (nI q)), (7, .int (nI tm))]) hx hb dL_goOn_65 hl (by decide) rfl (fun ls hl => ?_)
  have lp67 : ∀ (fu67 : Nat) (i : Nat), i ≤ tm → tm - i < fu67 → ∀ (H : Heap) (locs : List Loc), fP D 9 af (g9 ct Z (hsZ (wpY Z k q) n i) r) H → va_S (nF 5 ad sz) s.heap H locs → ∀ (ls : Array Slot), lv_has ls 15 [(13, .int (nI i)), (12, .int (hsT (wpY Z k q) n i)), (11, .ref (af 8)), (10, .ref (af 7)), (9, .ref (af 6)), (8, .ref (af 5)), (0, .ref (af 0)), (1, .ref (af 1)), (2, .ref (af 2)), (3, .ref (af 3)), (4, .ref (af 4)), (5, .int (nI k)), (6, .int (nI q)), (7, .int (nI tm))] → W p l e ({ frames := 4, cells := 4, slots := 107, locals := 103 }) s m args below meth c H locs 4 107 (MQ below (nQ D ct 5 ad sz (some (.long (goV Z n k q tm))) (lwc ct Z r)) args s 4 107 (nF 5 ad sz)) (F0 m 67 ls []) := by
    intro fu67
    induction fu67 with
    | zero => intro i hi hfu67; exact absurd hfu67 (Nat.not_lt_zero _)
    | succ fu67 ih67 =>
      intro i hi hfu67 H locs hP hS ls hl
      refine lv_iload hx hb dL_goOn_67 (lv_at hl 0 rfl) ?_
      refine lv_iload hx hb dL_goOn_69 (lv_at hl 13 rfl) ?_
      refine lv_icmp_geN (tgt := 97) hx hb (by omega) (by omega) dL_goOn_71 (by decide) (fun c71 => ?_) (fun c71 => ?_)
      · have e9 : tm = i := by omega
        subst e9
        refine lv_iconst (v := nI 0) hx hb dL_goOn_97 (by decide) ?_
        refine lv_istore (lv' := [(13, .int (nI 0)), (12, .int (hsT (wpY Z k q) n tm)), (11, .ref (af 8)), (10, .ref (af 7)), (9, .ref (af 6)), (8, .ref (af 5)), (0, .ref (af 0)), (1, .ref (af 1)), (2, .ref (af 2)), (3, .ref (af 3)), (4, .ref (af 4)), (5, .int (nI k)), (6, .int (nI q)), (7, .int (nI tm))]) hx hb dL_goOn_98 hl (by decide) rfl (fun ls hl => ?_)
        refine lv_iconst (v := nI 0) hx hb dL_goOn_100 (by decide) ?_
        refine lv_istore (lv' := [(14, .int (nI 0)), (13, .int (nI 0)), (12, .int (hsT (wpY Z k q) n tm)), (11, .ref (af 8)), (10, .ref (af 7)), (9, .ref (af 6)), (8, .ref (af 5)), (0, .ref (af 0)), (1, .ref (af 1)), (2, .ref (af 2)), (3, .ref (af 3)), (4, .ref (af 4)), (5, .int (nI k)), (6, .int (nI q)), (7, .int (nI tm))]) hx hb dL_goOn_101 hl (by decide) rfl (fun ls hl => ?_)
        have lp103 : ∀ (fu103 : Nat) (j : Nat), j ≤ n → n - j < fu103 → ∀ (H : Heap) (locs : List Loc), fP D 9 af (g9 ct Z (hsZ (wpY Z k q) n tm) r) H → va_S (nF 5 ad sz) s.heap H locs → ∀ (ls : Array Slot), lv_has ls 15 [(14, .int (nI j)), (13, .int (dkS (hsZ (wpY Z k q) n tm) Z j)), (12, .int (hsT (wpY Z k q) n tm)), (11, .ref (af 8)), (10, .ref (af 7)), (9, .ref (af 6)), (8, .ref (af 5)), (0, .ref (af 0)), (1, .ref (af 1)), (2, .ref (af 2)), (3, .ref (af 3)), (4, .ref (af 4)), (5, .int (nI k)), (6, .int (nI q)), (7, .int (nI tm))] → W p l e ({ frames := 4, cells := 4, slots := 107, locals := 103 }) s m args below meth c H locs 4 107 (MQ below (nQ D ct 5 ad sz (some (.long (goV Z n k q tm))) (lwc ct Z r)) args s 4 107 (nF 5 ad sz)) (F0 m 103 ls []) := by
          intro fu103
          induction fu103 with
          | zero => intro j hj hfu103; exact absurd hfu103 (Nat.not_lt_zero _)
          | succ fu103 ih103 =>
            intro j hj hfu103 H locs hP hS ls hl
            refine lv_iload hx hb dL_goOn_103 (lv_at hl 0 rfl) ?_
            refine lv_aload hx hb dL_goOn_105 (lv_at hl 11 rfl) ?_
            refine lv_iconst (v := nI 4) hx hb dL_goOn_107 (by decide) ?_
            refine fr_iald (k := 4) (f := vwT Z) hx hb hK hP (by decide) rfl (by omega) (by decide) dL_goOn_108 ?_
            refine lv_teq (vwT_at (by omega)) ?_
            refine lv_teq (hg).1.2.1 ?_
            refine lv_icmp_geN (tgt := 141) hx hb (by omega) (by omega) dL_goOn_109 (by decide) (fun c109 => ?_) (fun c109 => ?_)
            · have e9 : n = j := by omega
              subst e9
              refine lv_ldc2 hx hb hown (htg _ k2_L_58) dL_goOn_141 ?_
              refine lv_aload hx hb dL_goOn_144 (lv_at hl 5 rfl) ?_
              refine lv_iconst (v := nI 2) hx hb dL_goOn_146 (by decide) ?_
              refine lv_iload hx hb dL_goOn_147 (lv_at hl 12 rfl) ?_
              refine lv_imulN hx hb dL_goOn_149 ?_
              refine fr_iald (k := 6) (f := vwM (hsZ (wpY Z k q) n tm)) hx hb hK hP (by decide) rfl (by omega) (by decide) dL_goOn_150 ?_
              refine lv_teq (vwM_a0 (by omega)) ?_
              refine lv_aload_n hx hb dL_goOn_151 rfl (lv_at hl 8 rfl) ?_
              refine lv_iconst (v := nI 2) hx hb dL_goOn_152 (by decide) ?_
              refine lv_iload hx hb dL_goOn_153 (lv_at hl 12 rfl) ?_
              refine lv_imulN hx hb dL_goOn_155 ?_
              refine fr_iald (k := 1) (f := vwM Z) hx hb hK hP (by decide) rfl (by omega) (by decide) dL_goOn_156 ?_
              refine lv_teq (vwM_a0 (by omega)) ?_
              refine lv_isub hx hb dL_goOn_157 ?_
              refine lv_i2l (v := Int32.toInt64 (((hsZ (wpY Z k q) n tm) (39 + 8 * k + 6)) - (Z (39 + 8 * k + 6)))) hx hb dL_goOn_158 rfl ?_
              refine lv_lmul hx hb dL_goOn_159 ?_
              refine lv_ldc2 hx hb hown (htg _ k2_L_60) dL_goOn_160 ?_
              refine lv_iload hx hb dL_goOn_163 (lv_at hl 1 rfl) ?_
              refine lv_i2l (v := Int32.toInt64 (dkS (hsZ (wpY Z k q) n tm) Z n)) hx hb dL_goOn_165 rfl ?_
              refine lv_lmul hx hb dL_goOn_166 ?_
              refine lv_ladd hx hb dL_goOn_167 ?_
              refine lv_iload hx hb dL_goOn_168 (lv_at hl 2 rfl) ?_
              refine lv_i2l (v := Int32.toInt64 (hsT (wpY Z k q) n tm)) hx hb dL_goOn_170 rfl ?_
              refine lv_ladd hx hb dL_goOn_171 ?_
              refine nw_lret hx hb hr hlocks hK hI5 hS dL_goOn_172 ?_ (g9_left haf hP)
              exact rfl
            · refine lv_iload hx hb dL_goOn_112 (lv_at hl 1 rfl) ?_
              refine lv_aload hx hb dL_goOn_114 (lv_at hl 5 rfl) ?_
              refine lv_iconst (v := nI 2) hx hb dL_goOn_116 (by decide) ?_
              refine lv_iload hx hb dL_goOn_117 (lv_at hl 0 rfl) ?_
              refine lv_imulN hx hb dL_goOn_119 ?_
              refine lv_iconst (v := nI 1) hx hb dL_goOn_120 (by decide) ?_
              refine lv_iaddN hx hb dL_goOn_121 ?_
              refine fr_iald (k := 6) (f := vwM (hsZ (wpY Z k q) n tm)) hx hb hK hP (by decide) rfl (by omega) (by decide) dL_goOn_122 ?_
              refine lv_teq (vwM_a1 (by omega)) ?_
              refine lv_aload_n hx hb dL_goOn_123 rfl (lv_at hl 8 rfl) ?_
              refine lv_iconst (v := nI 2) hx hb dL_goOn_124 (by decide) ?_
              refine lv_iload hx hb dL_goOn_125 (lv_at hl 0 rfl) ?_
              refine lv_imulN hx hb dL_goOn_127 ?_
              refine lv_iconst (v := nI 1) hx hb dL_goOn_128 (by decide) ?_
              refine lv_iaddN hx hb dL_goOn_129 ?_
              refine fr_iald (k := 1) (f := vwM Z) hx hb hK hP (by decide) rfl (by omega) (by decide) dL_goOn_130 ?_
              refine lv_teq (vwM_a1 (by omega)) ?_
              refine lv_isub hx hb dL_goOn_131 ?_
              refine lv_iadd hx hb dL_goOn_132 ?_
              refine lv_istore (lv' := [(13, .int ((dkS (hsZ (wpY Z k q) n tm) Z j) + (((hsZ (wpY Z k q) n tm) (39 + 8 * j + 7)) - (Z (39 + 8 * j + 7))))), (14, .int (nI j)), (12, .int (hsT (wpY Z k q) n tm)), (11, .ref (af 8)), (10, .ref (af 7)), (9, .ref (af 6)), (8, .ref (af 5)), (0, .ref (af 0)), (1, .ref (af 1)), (2, .ref (af 2)), (3, .ref (af 3)), (4, .ref (af 4)), (5, .int (nI k)), (6, .int (nI q)), (7, .int (nI tm))]) hx hb dL_goOn_133 hl (by decide) rfl (fun ls hl => ?_)
              refine lv_iinc (v := nI (j + 1)) (lv' := [(14, .int (nI (j + 1))), (13, .int ((dkS (hsZ (wpY Z k q) n tm) Z j) + (((hsZ (wpY Z k q) n tm) (39 + 8 * j + 7)) - (Z (39 + 8 * j + 7))))), (12, .int (hsT (wpY Z k q) n tm)), (11, .ref (af 8)), (10, .ref (af 7)), (9, .ref (af 6)), (8, .ref (af 5)), (0, .ref (af 0)), (1, .ref (af 1)), (2, .ref (af 2)), (3, .ref (af 3)), (4, .ref (af 4)), (5, .int (nI k)), (6, .int (nI q)), (7, .int (nI tm))]) hx hb dL_goOn_135 hl (k := 1) rfl (nI_add j 1) (by decide) rfl (fun ls hl => ?_)
              refine lv_goto (tgt := 103) hx hb dL_goOn_138 (by decide) ?_
              have hl := lv_sub (l' := [(14, .int (nI (j + 1))), (13, .int ((dkS (hsZ (wpY Z k q) n tm) Z j) + (((hsZ (wpY Z k q) n tm) (39 + 8 * j + 7)) - (Z (39 + 8 * j + 7))))), (12, .int (hsT (wpY Z k q) n tm)), (11, .ref (af 8)), (10, .ref (af 7)), (9, .ref (af 6)), (8, .ref (af 5)), (0, .ref (af 0)), (1, .ref (af 1)), (2, .ref (af 2)), (3, .ref (af 3)), (4, .ref (af 4)), (5, .int (nI k)), (6, .int (nI q)), (7, .int (nI tm))]) hl [0, 1, 2, 3, 4, 5, 6, 7, 8, 9, 10, 11, 12, 13, 14] rfl
              have le13 : Value.int ((dkS (hsZ (wpY Z k q) n tm) Z j) + (((hsZ (wpY Z k q) n tm) (39 + 8 * j + 7)) - (Z (39 + 8 * j + 7)))) = Value.int (dkS (hsZ (wpY Z k q) n tm) Z (j + 1)) := by rfl
              have hl := lv_hasE hl (lcons rfl (lcons le13 (lcons rfl (lcons rfl (lcons rfl (lcons rfl (lcons rfl (lcons rfl (lcons rfl (lcons rfl (lcons rfl (lcons rfl (lcons rfl (lcons rfl (lcons rfl rfl)))))))))))))))
              exact ih103 (j + 1) (by omega) (by omega) _ _ hP hS _ hl
        have hl := lv_sub (l' := [(14, .int (nI 0)), (13, .int (nI 0)), (12, .int (hsT (wpY Z k q) n tm)), (11, .ref (af 8)), (10, .ref (af 7)), (9, .ref (af 6)), (8, .ref (af 5)), (0, .ref (af 0)), (1, .ref (af 1)), (2, .ref (af 2)), (3, .ref (af 3)), (4, .ref (af 4)), (5, .int (nI k)), (6, .int (nI q)), (7, .int (nI tm))]) hl [0, 1, 2, 3, 4, 5, 6, 7, 8, 9, 10, 11, 12, 13, 14] rfl
        have le13 : Value.int (nI 0) = Value.int (dkS (hsZ (wpY Z k q) n tm) Z 0) := by rfl
        have hl := lv_hasE hl (lcons rfl (lcons le13 (lcons rfl (lcons rfl (lcons rfl (lcons rfl (lcons rfl (lcons rfl (lcons rfl (lcons rfl (lcons rfl (lcons rfl (lcons rfl (lcons rfl (lcons rfl rfl)))))))))))))))
        exact lp103 (n - 0 + 1) 0 (by omega) (Nat.lt_succ_self _) _ _ hP hS _ hl
      · refine lv_iload hx hb dL_goOn_74 (lv_at hl 1 rfl) ?_
        refine lv_aload hx hb dL_goOn_76 (lv_at hl 5 rfl) ?_
        refine lv_aload hx hb dL_goOn_78 (lv_at hl 4 rfl) ?_
        refine lv_aload hx hb dL_goOn_80 (lv_at hl 3 rfl) ?_
        refine lv_aload_n hx hb dL_goOn_82 rfl (lv_at hl 9 rfl) ?_
        refine lv_aload hx hb dL_goOn_83 (lv_at hl 2 rfl) ?_
        refine nw_Sr (N1 := 5) (nm := nmY) (ce1 := lwc ct (hsZ (wpY Z k q) n i) r) (ce1' := lwc ct (hrZ (hsZ (wpY Z k q) n i) n) r) (ce' := g9 ct Z (hrZ (hsZ (wpY Z k q) n i) n) r) (As := [.ref (af 5), .ref (af 6), .ref (af 7), .ref (af 3), .ref (af 8)]) (rest := [.int (hsT (wpY Z k q) n i)]) hx hb hml hown htg hK hI hP hS hA0 hl.1 nmY_9 nmY_inj g9_Y g9_Y g9_Yo (mL_hour l D ct (fun z => af (nmY z)) (hsZ (wpY Z k q) n i) r n ((hYs i (by omega)).1) ((hYs i (by omega)).2.1) ((hYs i (by omega)).2.2)) cw_L_54 rfl rfl ⟨Nat.le_of_ble_eq_true rfl, Nat.le_of_ble_eq_true rfl⟩ (Nat.le_of_ble_eq_true rfl) dL_goOn_85 ⟨Nat.le_of_ble_eq_true rfl, Nat.le_of_ble_eq_true rfl⟩ (fun H locs hP hS => ?_)
        refine lv_iadd hx hb dL_goOn_88 ?_
        refine lv_istore (lv' := [(12, .int ((hsT (wpY Z k q) n i) + (hrT (hsZ (wpY Z k q) n i) n))), (13, .int (nI i)), (11, .ref (af 8)), (10, .ref (af 7)), (9, .ref (af 6)), (8, .ref (af 5)), (0, .ref (af 0)), (1, .ref (af 1)), (2, .ref (af 2)), (3, .ref (af 3)), (4, .ref (af 4)), (5, .int (nI k)), (6, .int (nI q)), (7, .int (nI tm))]) hx hb dL_goOn_89 hl (by decide) rfl (fun ls hl => ?_)
        refine lv_iinc (v := nI (i + 1)) (lv' := [(13, .int (nI (i + 1))), (12, .int ((hsT (wpY Z k q) n i) + (hrT (hsZ (wpY Z k q) n i) n))), (11, .ref (af 8)), (10, .ref (af 7)), (9, .ref (af 6)), (8, .ref (af 5)), (0, .ref (af 0)), (1, .ref (af 1)), (2, .ref (af 2)), (3, .ref (af 3)), (4, .ref (af 4)), (5, .int (nI k)), (6, .int (nI q)), (7, .int (nI tm))]) hx hb dL_goOn_91 hl (k := 1) rfl (nI_add i 1) (by decide) rfl (fun ls hl => ?_)
        refine lv_goto (tgt := 67) hx hb dL_goOn_94 (by decide) ?_
        have hl := lv_sub (l' := [(13, .int (nI (i + 1))), (12, .int ((hsT (wpY Z k q) n i) + (hrT (hsZ (wpY Z k q) n i) n))), (11, .ref (af 8)), (10, .ref (af 7)), (9, .ref (af 6)), (8, .ref (af 5)), (0, .ref (af 0)), (1, .ref (af 1)), (2, .ref (af 2)), (3, .ref (af 3)), (4, .ref (af 4)), (5, .int (nI k)), (6, .int (nI q)), (7, .int (nI tm))]) hl [0, 1, 2, 3, 4, 5, 6, 7, 8, 9, 10, 11, 12, 13] rfl
        have le12 : Value.int ((hsT (wpY Z k q) n i) + (hrT (hsZ (wpY Z k q) n i) n)) = Value.int (hsT (wpY Z k q) n (i + 1)) := by rfl
        have hl := lv_hasE hl (lcons rfl (lcons le12 (lcons rfl (lcons rfl (lcons rfl (lcons rfl (lcons rfl (lcons rfl (lcons rfl (lcons rfl (lcons rfl (lcons rfl (lcons rfl (lcons rfl rfl))))))))))))))
        have hP := fP.eqc (congrArg (fun v9 => g9 ct Z v9 r) (show (hrZ (hsZ (wpY Z k q) n i) n) = (hsZ (wpY Z k q) n (i + 1)) from by rfl)) hP
        exact ih67 (i + 1) (by omega) (by omega) _ _ hP hS _ hl
  have hl := lv_sub (l' := [(13, .int (nI 0)), (12, .int (nI 0)), (11, .ref (af 8)), (10, .ref (af 7)), (9, .ref (af 6)), (8, .ref (af 5)), (0, .ref (af 0)), (1, .ref (af 1)), (2, .ref (af 2)), (3, .ref (af 3)), (4, .ref (af 4)), (5, .int (nI k)), (6, .int (nI q)), (7, .int (nI tm))]) hl [0, 1, 2, 3, 4, 5, 6, 7, 8, 9, 10, 11, 12, 13] rfl
  have le12 : Value.int (nI 0) = Value.int (hsT (wpY Z k q) n 0) := by rfl
  have hl := lv_hasE hl (lcons rfl (lcons le12 (lcons rfl (lcons rfl (lcons rfl (lcons rfl (lcons rfl (lcons rfl (lcons rfl (lcons rfl (lcons rfl (lcons rfl (lcons rfl (lcons rfl rfl))))))))))))))
  have hP := fP.eqc (congrArg (fun v9 => g9 ct Z v9 r) (show (wpY Z k q) = (hsZ (wpY Z k q) n 0) from by rfl)) hP
  exact lp67 (tm - 0 + 1) 0 (by omega) (Nat.lt_succ_self _) _ _ hP hS _ hl
