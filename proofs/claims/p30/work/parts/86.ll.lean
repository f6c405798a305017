/-! THE LAW'S ROWS: five arrays by names, views of one row of numbers Z (as the market has it) and of the mask r -/
def vwA (Z : Nat → Int32) : Nat → Int32 := fun j => if j < 60 then Z (39 + 8 * (j / 6) + j % 6) else 0
def vwM (Z : Nat → Int32) : Nat → Int32 := fun j => if j < 20 then Z (39 + 8 * (j / 2) + 6 + j % 2) else 0
def vwB (Z : Nat → Int32) : Nat → Int32 := fun j => if j < 20 then Z (7 + j) else 0
def vwT (Z : Nat → Int32) : Nat → Int32 := fun j => if j < 7 then Z j else 0
def vwR (r : Int32) : Nat → Int32 := fun j => if j = 0 then r else 0
theorem vwA_at {Z : Nat → Int32} {k j : Nat} (hk : k < 10) (hj : j < 6) : vwA Z (6 * k + j) = Z (39 + 8 * k + j) := by
  unfold vwA; rw [if_pos (by omega), show (6 * k + j) / 6 = k by omega, show (6 * k + j) % 6 = j by omega]
theorem vwA_a0 {Z : Nat → Int32} {k : Nat} (hk : k < 10) : vwA Z (6 * k) = Z (39 + 8 * k + 0) := vwA_at (j := 0) hk (by omega)
theorem vwM_at {Z : Nat → Int32} {k j : Nat} (hk : k < 10) (hj : j < 2) : vwM Z (2 * k + j) = Z (39 + 8 * k + (6 + j)) := by
  unfold vwM; rw [if_pos (by omega), show (2 * k + j) / 2 = k by omega, show (2 * k + j) % 2 = j by omega]; exact congrArg Z (by omega)
theorem vwM_a0 {Z : Nat → Int32} {k : Nat} (hk : k < 10) : vwM Z (2 * k) = Z (39 + 8 * k + 6) := vwM_at (j := 0) hk (by omega)
theorem vwM_a1 {Z : Nat → Int32} {k : Nat} (hk : k < 10) : vwM Z (2 * k + 1) = Z (39 + 8 * k + 7) := vwM_at (j := 1) hk (by omega)
theorem vwB_at {Z : Nat → Int32} {k j : Nat} (hk : k < 4) (hj : j < 5) : vwB Z (5 * k + j) = Z (7 + 5 * k + j) := by
  unfold vwB; rw [if_pos (by omega)]; exact congrArg Z (by omega)
theorem vwB_a0 {Z : Nat → Int32} {k : Nat} (hk : k < 4) : vwB Z (5 * k) = Z (7 + 5 * k + 0) := vwB_at (j := 0) hk (by omega)
theorem vwT_at {Z : Nat → Int32} {j : Nat} (hj : j < 7) : vwT Z j = Z j := if_pos hj
theorem vwR_at {r : Int32} : vwR r 0 = r := if_pos rfl
def lwc (ct : Nat → ClassId) (Z : Nat → Int32) (r : Int32) : Nat → va_E := fun i => match i with
  | 0 => .inl (ct 0, 60, .inl (vwA Z))
  | 1 => .inl (ct 0, 20, .inl (vwM Z))
  | 2 => .inl (ct 0, 20, .inl (vwB Z))
  | 3 => .inl (ct 0, 1, .inl (vwR r))
  | _ => .inl (ct 0, 7, .inl (vwT Z))
/-- what a number of Z written changes: its own view alone -/
theorem vwA_upd {Z : Nat → Int32} {k j : Nat} {x : Int32} (hk : k < 10) (hj : j < 6) : upd (vwA Z) (6 * k + j) x = vwA (upd Z (39 + 8 * k + j) x) := by
  funext i
  by_cases e : i = 6 * k + j
  · subst e; rw [upd_s, vwA_at hk hj, upd_s]
  · rw [upd_n e]; unfold vwA
    by_cases c : i < 60
    · rw [if_pos c, if_pos c, upd_n (by omega)]
    · rw [if_neg c, if_neg c]
theorem vwM_upd {Z : Nat → Int32} {k j : Nat} {x : Int32} (hk : k < 10) (hj : j < 2) : upd (vwM Z) (2 * k + j) x = vwM (upd Z (39 + 8 * k + (6 + j)) x) := by
  funext i
  by_cases e : i = 2 * k + j
  · subst e; rw [upd_s, vwM_at hk hj, upd_s]
  · rw [upd_n e]; unfold vwM
    by_cases c : i < 20
    · rw [if_pos c, if_pos c, upd_n (by omega)]
    · rw [if_neg c, if_neg c]
theorem vwB_upd {Z : Nat → Int32} {k j : Nat} {x : Int32} (hk : k < 4) (hj : j < 5) : upd (vwB Z) (5 * k + j) x = vwB (upd Z (7 + 5 * k + j) x) := by
  funext i
  by_cases e : i = 5 * k + j
  · subst e; rw [upd_s, vwB_at hk hj, upd_s]
  · rw [upd_n e]; unfold vwB
    by_cases c : i < 20
    · rw [if_pos c, if_pos c, upd_n (by omega)]
    · rw [if_neg c, if_neg c]
theorem vwT_upd {Z : Nat → Int32} {j : Nat} {x : Int32} (hj : j < 7) : upd (vwT Z) j x = vwT (upd Z j x) := by
  funext i
  by_cases e : i = j
  · subst e; rw [upd_s, vwT_at hj, upd_s]
  · rw [upd_n e]; unfold vwT
    by_cases c : i < 7
    · rw [if_pos c, if_pos c, upd_n e]
    · rw [if_neg c, if_neg c]
theorem vwR_upd {r x : Int32} : upd (vwR r) 0 x = vwR x := by
  funext i
  by_cases e : i = 0
  · subst e; rw [upd_s]; rfl
  · rw [upd_n e]; unfold vwR; rw [if_neg e, if_neg e]
theorem vwA_no {Z : Nat → Int32} {i : Nat} {x : Int32} (h : ∀ k j, k < 10 → j < 6 → i ≠ 39 + 8 * k + j) : vwA (upd Z i x) = vwA Z := by
  funext q; unfold vwA
  by_cases c : q < 60
  · rw [if_pos c, if_pos c, upd_n (fun e => h (q / 6) (q % 6) (by omega) (by omega) e.symm)]
  · rw [if_neg c, if_neg c]
theorem vwM_no {Z : Nat → Int32} {i : Nat} {x : Int32} (h : ∀ k j, k < 10 → j < 2 → i ≠ 39 + 8 * k + 6 + j) : vwM (upd Z i x) = vwM Z := by
  funext q; unfold vwM
  by_cases c : q < 20
  · rw [if_pos c, if_pos c, upd_n (fun e => h (q / 2) (q % 2) (by omega) (by omega) e.symm)]
  · rw [if_neg c, if_neg c]
theorem vwB_no {Z : Nat → Int32} {i : Nat} {x : Int32} (h : ∀ j, j < 20 → i ≠ 7 + j) : vwB (upd Z i x) = vwB Z := by
  funext q; unfold vwB
  by_cases c : q < 20
  · rw [if_pos c, if_pos c, upd_n (fun e => h q c e.symm)]
  · rw [if_neg c, if_neg c]
theorem vwT_no {Z : Nat → Int32} {i : Nat} {x : Int32} (h : 7 ≤ i) : vwT (upd Z i x) = vwT Z := by
  funext q; unfold vwT
  by_cases c : q < 7
  · rw [if_pos c, if_pos c, upd_n (by omega)]
  · rw [if_neg c, if_neg c]
theorem lwc_he {ct : Nat → ClassId} {Z Y : Nat → Int32} {r q : Int32} {k0 : Nat} {e : va_E} (he : e = lwc ct Y q k0) (hA : k0 ≠ 0 → vwA Y = vwA Z) (hM : k0 ≠ 1 → vwM Y = vwM Z) (hB : k0 ≠ 2 → vwB Y = vwB Z) (hR : k0 ≠ 3 → q = r) (hT : k0 ≠ 4 → vwT Y = vwT Z) : ∀ i, i < 5 → va_up (lwc ct Z r) k0 e i = lwc ct Y q i := by
  intro i hi
  by_cases c : i = k0
  · subst c; unfold va_up; rw [if_pos rfl, he]
  · rw [va_up_ne _ _ c]
    rcases (show i = 0 ∨ i = 1 ∨ i = 2 ∨ i = 3 ∨ i = 4 by omega) with rfl | rfl | rfl | rfl | rfl
    · show (Sum.inl (ct 0, 60, .inl (vwA Z)) : va_E) = Sum.inl (ct 0, 60, .inl (vwA Y)); rw [hA (Ne.symm c)]
    · show (Sum.inl (ct 0, 20, .inl (vwM Z)) : va_E) = Sum.inl (ct 0, 20, .inl (vwM Y)); rw [hM (Ne.symm c)]
    · show (Sum.inl (ct 0, 20, .inl (vwB Z)) : va_E) = Sum.inl (ct 0, 20, .inl (vwB Y)); rw [hB (Ne.symm c)]
    · show (Sum.inl (ct 0, 1, .inl (vwR r)) : va_E) = Sum.inl (ct 0, 1, .inl (vwR q)); rw [hR (Ne.symm c)]
    · show (Sum.inl (ct 0, 7, .inl (vwT Z)) : va_E) = Sum.inl (ct 0, 7, .inl (vwT Y)); rw [hT (Ne.symm c)]
section LWL
variable {p : Program} {l : Launch} {e : Env} {R : Room} {s : State} {m : MethodId} {args : Array Value} {below : List Frame} {meth : Method} {c : Code} {H : Heap} {locs : List Loc} {cells slots : Nat} {Q : State → Prop}
variable {cc : ByteArray} {pc : Nat} {ls : Array Slot} {rest : List Value} {D : va_G} {ct : Nat → ClassId} {ad : Nat → Nat} {Z : Nat → Int32} {r : Int32} {A0 : Nat → Prop} {H0 : Heap}
theorem lw_l0 {i : Nat} (hx : p.tables.exec = Jvm.exec) (hb : c.code = cc) (hK : va_K D vwCl (fTys ct) s) (hP : fP D 5 ad (lwc ct Z r) H) (hi : i < 60) (hdg : decode cc pc = .ok (.iaload, 1)) (kk : W p l e R s m args below meth c H locs cells slots Q (F0 m (pc + 1) ls (.int (vwA Z i) :: rest))) : W p l e R s m args below meth c H locs cells slots Q (F0 m pc ls (.int (nI i) :: .ref (ad 0) :: rest)) :=
  fr_iald (k := 0) (f := vwA Z) hx hb hK hP (by decide) rfl hi (by decide) hdg kk
theorem lw_l1 {i : Nat} (hx : p.tables.exec = Jvm.exec) (hb : c.code = cc) (hK : va_K D vwCl (fTys ct) s) (hP : fP D 5 ad (lwc ct Z r) H) (hi : i < 20) (hdg : decode cc pc = .ok (.iaload, 1)) (kk : W p l e R s m args below meth c H locs cells slots Q (F0 m (pc + 1) ls (.int (vwM Z i) :: rest))) : W p l e R s m args below meth c H locs cells slots Q (F0 m pc ls (.int (nI i) :: .ref (ad 1) :: rest)) :=
  fr_iald (k := 1) (f := vwM Z) hx hb hK hP (by decide) rfl hi (by decide) hdg kk
theorem lw_l2 {i : Nat} (hx : p.tables.exec = Jvm.exec) (hb : c.code = cc) (hK : va_K D vwCl (fTys ct) s) (hP : fP D 5 ad (lwc ct Z r) H) (hi : i < 20) (hdg : decode cc pc = .ok (.iaload, 1)) (kk : W p l e R s m args below meth c H locs cells slots Q (F0 m (pc + 1) ls (.int (vwB Z i) :: rest))) : W p l e R s m args below meth c H locs cells slots Q (F0 m pc ls (.int (nI i) :: .ref (ad 2) :: rest)) :=
  fr_iald (k := 2) (f := vwB Z) hx hb hK hP (by decide) rfl hi (by decide) hdg kk
theorem lw_l3 {i : Nat} (hx : p.tables.exec = Jvm.exec) (hb : c.code = cc) (hK : va_K D vwCl (fTys ct) s) (hP : fP D 5 ad (lwc ct Z r) H) (hi : i < 1) (hdg : decode cc pc = .ok (.iaload, 1)) (kk : W p l e R s m args below meth c H locs cells slots Q (F0 m (pc + 1) ls (.int (vwR r i) :: rest))) : W p l e R s m args below meth c H locs cells slots Q (F0 m pc ls (.int (nI i) :: .ref (ad 3) :: rest)) :=
  fr_iald (k := 3) (f := vwR r) hx hb hK hP (by decide) rfl hi (by decide) hdg kk
theorem lw_l4 {i : Nat} (hx : p.tables.exec = Jvm.exec) (hb : c.code = cc) (hK : va_K D vwCl (fTys ct) s) (hP : fP D 5 ad (lwc ct Z r) H) (hi : i < 7) (hdg : decode cc pc = .ok (.iaload, 1)) (kk : W p l e R s m args below meth c H locs cells slots Q (F0 m (pc + 1) ls (.int (vwT Z i) :: rest))) : W p l e R s m args below meth c H locs cells slots Q (F0 m pc ls (.int (nI i) :: .ref (ad 4) :: rest)) :=
  fr_iald (k := 4) (f := vwT Z) hx hb hK hP (by decide) rfl hi (by decide) hdg kk
theorem lw_sA {x : Int32} {k j : Nat} (hk : k < 10) (hj : j < 6) (hx : p.tables.exec = Jvm.exec) (hb : c.code = cc) (hK : va_K D vwCl (fTys ct) s) (hP : fP D 5 ad (lwc ct Z r) H) (hI : fI 5 ad) (hS : va_S A0 H0 H locs) (hA0 : ∀ i, i < 5 → A0 (ad i)) (hdg : decode cc pc = .ok (.iastore, 1)) (kk : ∀ (H1 : Heap) (locs1 : List Loc), fP D 5 ad (lwc ct (upd Z (39 + 8 * k + j) x) (r)) H1 → va_S A0 H0 H1 locs1 → W p l e R s m args below meth c H1 locs1 cells slots Q (F0 m (pc + 1) ls (rest))) : W p l e R s m args below meth c H locs cells slots Q (F0 m pc ls (.int x :: .int (nI (6 * k + j)) :: .ref (ad 0) :: rest)) :=
  fr_iast (k := 0) (f := vwA Z) hx hb hK hI hP hS hA0 (by decide) rfl (by omega) (by decide) hdg (lwc_he (by rw [vwA_upd hk hj]; rfl) (fun h => absurd rfl h) (fun _ => vwM_no (fun _ _ _ _ => by omega)) (fun _ => vwB_no (fun _ _ => by omega)) (fun _ => rfl) (fun _ => vwT_no (by omega))) kk
theorem lw_sA0 {x : Int32} {k : Nat} (hk : k < 10) (hx : p.tables.exec = Jvm.exec) (hb : c.code = cc) (hK : va_K D vwCl (fTys ct) s) (hP : fP D 5 ad (lwc ct Z r) H) (hI : fI 5 ad) (hS : va_S A0 H0 H locs) (hA0 : ∀ i, i < 5 → A0 (ad i)) (hdg : decode cc pc = .ok (.iastore, 1)) (kk : ∀ (H1 : Heap) (locs1 : List Loc), fP D 5 ad (lwc ct (upd Z (39 + 8 * k + 0) x) (r)) H1 → va_S A0 H0 H1 locs1 → W p l e R s m args below meth c H1 locs1 cells slots Q (F0 m (pc + 1) ls (rest))) : W p l e R s m args below meth c H locs cells slots Q (F0 m pc ls (.int x :: .int (nI (6 * k)) :: .ref (ad 0) :: rest)) :=
  fr_iast (k := 0) (f := vwA Z) hx hb hK hI hP hS hA0 (by decide) rfl (by omega) (by decide) hdg (lwc_he (by rw [show upd (vwA Z) (6 * k) x = vwA (upd Z (39 + 8 * k + 0) x) from vwA_upd (j := 0) hk (by omega)]; rfl) (fun h => absurd rfl h) (fun _ => vwM_no (fun _ _ _ _ => by omega)) (fun _ => vwB_no (fun _ _ => by omega)) (fun _ => rfl) (fun _ => vwT_no (by omega))) kk
theorem lw_sM0 {x : Int32} {k : Nat} (hk : k < 10) (hx : p.tables.exec = Jvm.exec) (hb : c.code = cc) (hK : va_K D vwCl (fTys ct) s) (hP : fP D 5 ad (lwc ct Z r) H) (hI : fI 5 ad) (hS : va_S A0 H0 H locs) (hA0 : ∀ i, i < 5 → A0 (ad i)) (hdg : decode cc pc = .ok (.iastore, 1)) (kk : ∀ (H1 : Heap) (locs1 : List Loc), fP D 5 ad (lwc ct (upd Z (39 + 8 * k + 6) x) (r)) H1 → va_S A0 H0 H1 locs1 → W p l e R s m args below meth c H1 locs1 cells slots Q (F0 m (pc + 1) ls (rest))) : W p l e R s m args below meth c H locs cells slots Q (F0 m pc ls (.int x :: .int (nI (2 * k)) :: .ref (ad 1) :: rest)) :=
  fr_iast (k := 1) (f := vwM Z) hx hb hK hI hP hS hA0 (by decide) rfl (by omega) (by decide) hdg (lwc_he (by rw [show upd (vwM Z) (2 * k) x = vwM (upd Z (39 + 8 * k + 6) x) from vwM_upd (j := 0) hk (by omega)]; rfl) (fun _ => vwA_no (fun _ _ _ _ => by omega)) (fun h => absurd rfl h) (fun _ => vwB_no (fun _ _ => by omega)) (fun _ => rfl) (fun _ => vwT_no (by omega))) kk
theorem lw_sM1 {x : Int32} {k : Nat} (hk : k < 10) (hx : p.tables.exec = Jvm.exec) (hb : c.code = cc) (hK : va_K D vwCl (fTys ct) s) (hP : fP D 5 ad (lwc ct Z r) H) (hI : fI 5 ad) (hS : va_S A0 H0 H locs) (hA0 : ∀ i, i < 5 → A0 (ad i)) (hdg : decode cc pc = .ok (.iastore, 1)) (kk : ∀ (H1 : Heap) (locs1 : List Loc), fP D 5 ad (lwc ct (upd Z (39 + 8 * k + 7) x) (r)) H1 → va_S A0 H0 H1 locs1 → W p l e R s m args below meth c H1 locs1 cells slots Q (F0 m (pc + 1) ls (rest))) : W p l e R s m args below meth c H locs cells slots Q (F0 m pc ls (.int x :: .int (nI (2 * k + 1)) :: .ref (ad 1) :: rest)) :=
  fr_iast (k := 1) (f := vwM Z) hx hb hK hI hP hS hA0 (by decide) rfl (by omega) (by decide) hdg (lwc_he (by rw [show upd (vwM Z) (2 * k + 1) x = vwM (upd Z (39 + 8 * k + 7) x) from vwM_upd (j := 1) hk (by omega)]; rfl) (fun _ => vwA_no (fun _ _ _ _ => by omega)) (fun h => absurd rfl h) (fun _ => vwB_no (fun _ _ => by omega)) (fun _ => rfl) (fun _ => vwT_no (by omega))) kk
theorem lw_sB {x : Int32} {k j : Nat} (hk : k < 4) (hj : j < 5) (hx : p.tables.exec = Jvm.exec) (hb : c.code = cc) (hK : va_K D vwCl (fTys ct) s) (hP : fP D 5 ad (lwc ct Z r) H) (hI : fI 5 ad) (hS : va_S A0 H0 H locs) (hA0 : ∀ i, i < 5 → A0 (ad i)) (hdg : decode cc pc = .ok (.iastore, 1)) (kk : ∀ (H1 : Heap) (locs1 : List Loc), fP D 5 ad (lwc ct (upd Z (7 + 5 * k + j) x) (r)) H1 → va_S A0 H0 H1 locs1 → W p l e R s m args below meth c H1 locs1 cells slots Q (F0 m (pc + 1) ls (rest))) : W p l e R s m args below meth c H locs cells slots Q (F0 m pc ls (.int x :: .int (nI (5 * k + j)) :: .ref (ad 2) :: rest)) :=
  fr_iast (k := 2) (f := vwB Z) hx hb hK hI hP hS hA0 (by decide) rfl (by omega) (by decide) hdg (lwc_he (by rw [vwB_upd hk hj]; rfl) (fun _ => vwA_no (fun _ _ _ _ => by omega)) (fun _ => vwM_no (fun _ _ _ _ => by omega)) (fun h => absurd rfl h) (fun _ => rfl) (fun _ => vwT_no (by omega))) kk
theorem lw_sB0 {x : Int32} {k : Nat} (hk : k < 4) (hx : p.tables.exec = Jvm.exec) (hb : c.code = cc) (hK : va_K D vwCl (fTys ct) s) (hP : fP D 5 ad (lwc ct Z r) H) (hI : fI 5 ad) (hS : va_S A0 H0 H locs) (hA0 : ∀ i, i < 5 → A0 (ad i)) (hdg : decode cc pc = .ok (.iastore, 1)) (kk : ∀ (H1 : Heap) (locs1 : List Loc), fP D 5 ad (lwc ct (upd Z (7 + 5 * k + 0) x) (r)) H1 → va_S A0 H0 H1 locs1 → W p l e R s m args below meth c H1 locs1 cells slots Q (F0 m (pc + 1) ls (rest))) : W p l e R s m args below meth c H locs cells slots Q (F0 m pc ls (.int x :: .int (nI (5 * k)) :: .ref (ad 2) :: rest)) :=
  fr_iast (k := 2) (f := vwB Z) hx hb hK hI hP hS hA0 (by decide) rfl (by omega) (by decide) hdg (lwc_he (by rw [show upd (vwB Z) (5 * k) x = vwB (upd Z (7 + 5 * k + 0) x) from vwB_upd (j := 0) hk (by omega)]; rfl) (fun _ => vwA_no (fun _ _ _ _ => by omega)) (fun _ => vwM_no (fun _ _ _ _ => by omega)) (fun h => absurd rfl h) (fun _ => rfl) (fun _ => vwT_no (by omega))) kk
theorem lw_sT {x : Int32} {j : Nat} (hj : j < 7) (hx : p.tables.exec = Jvm.exec) (hb : c.code = cc) (hK : va_K D vwCl (fTys ct) s) (hP : fP D 5 ad (lwc ct Z r) H) (hI : fI 5 ad) (hS : va_S A0 H0 H locs) (hA0 : ∀ i, i < 5 → A0 (ad i)) (hdg : decode cc pc = .ok (.iastore, 1)) (kk : ∀ (H1 : Heap) (locs1 : List Loc), fP D 5 ad (lwc ct (upd Z (j) x) (r)) H1 → va_S A0 H0 H1 locs1 → W p l e R s m args below meth c H1 locs1 cells slots Q (F0 m (pc + 1) ls (rest))) : W p l e R s m args below meth c H locs cells slots Q (F0 m pc ls (.int x :: .int (nI (j)) :: .ref (ad 4) :: rest)) :=
  fr_iast (k := 4) (f := vwT Z) hx hb hK hI hP hS hA0 (by decide) rfl (by omega) (by decide) hdg (lwc_he (by rw [vwT_upd hj]; rfl) (fun _ => vwA_no (fun _ _ _ _ => by omega)) (fun _ => vwM_no (fun _ _ _ _ => by omega)) (fun _ => vwB_no (fun _ _ => by omega)) (fun _ => rfl) (fun h => absurd rfl h)) kk
theorem lw_sR {x : Int32} (hx : p.tables.exec = Jvm.exec) (hb : c.code = cc) (hK : va_K D vwCl (fTys ct) s) (hP : fP D 5 ad (lwc ct Z r) H) (hI : fI 5 ad) (hS : va_S A0 H0 H locs) (hA0 : ∀ i, i < 5 → A0 (ad i)) (hdg : decode cc pc = .ok (.iastore, 1)) (kk : ∀ (H1 : Heap) (locs1 : List Loc), fP D 5 ad (lwc ct (Z) (x)) H1 → va_S A0 H0 H1 locs1 → W p l e R s m args below meth c H1 locs1 cells slots Q (F0 m (pc + 1) ls (rest))) : W p l e R s m args below meth c H locs cells slots Q (F0 m pc ls (.int x :: .int (nI 0) :: .ref (ad 3) :: rest)) :=
  fr_iast (k := 3) (f := vwR r) hx hb hK hI hP hS hA0 (by decide) rfl (by omega) (by decide) hdg (lwc_he (by rw [vwR_upd]; rfl) (fun _ => rfl) (fun _ => rfl) (fun _ => rfl) (fun h => absurd rfl h) (fun _ => rfl)) kk
theorem lw_cr {nL : Nat} {own : String} {y : MethodName} {cy : ByteArray} {maxL : Nat} {ret : Option FieldType} {fr lo : Nat} {As st0 : List Value} {rv : Value} {idx n : Nat} {Y : Nat → Int32} {q : Int32} (hx : p.tables.exec = Jvm.exec) (hb : c.code = cc) (hown : s.vm.findClass own = some m.cls) (htg : ∀ w ∈ wB, w.before args s = true) (hK : va_K D vwCl (fTys ct) s) (hI : fI 5 ad) (hS : va_S A0 H0 H locs) (hP : fP D 5 ad (lwc ct Z r) H) (hA0 : ∀ i, i < 5 → A0 (ad i)) (hml : c.maxLocals = nL) (hl : ls.size = nL)
    (hM : FMet l y cy maxL ret fr lo D ct 5 ad As (lwc ct Z r) (some rv) (lwc ct Y q)) (hcw : cwg own idx y cy maxL ret n)
    (hst : st0 = As.reverse ++ rest) (hn : As.length = n) (hR : fr + 1 ≤ R.frames ∧ 8 + (maxL + 11) + lo ≤ R.locals) (hroom : (rest.map fun v => v.category).sum ≤ 8) (hdg : decode cc pc = .ok (.invokestatic idx, 3)) (hf : cells ≤ R.cells ∧ slots ≤ R.slots)
    (kk : ∀ (H1 : Heap) (locs1 : List Loc), fP D 5 ad (lwc ct Y q) H1 → va_S A0 H0 H1 locs1 → W p l e R s m args below meth c H1 locs1 cells slots Q (F0 m (pc + 3) ls (rv :: rest))) : W p l e R s m args below meth c H locs cells slots Q (F0 m pc ls st0) :=
  fc_S hx hb hml hown htg hK hS hl hI hP (fun q9 ⟨i9, h9, e9⟩ => by rw [e9]; exact hA0 i9 h9) hM hcw hst hn hR hroom hdg hf fun H1 l1 h1 _ _ h4 => kk H1 l1 h1 h4
theorem lw_c0 {nL : Nat} {own : String} {y : MethodName} {cy : ByteArray} {maxL : Nat} {ret : Option FieldType} {fr lo : Nat} {As st0 : List Value} {idx n : Nat} {Y : Nat → Int32} {q : Int32} (hx : p.tables.exec = Jvm.exec) (hb : c.code = cc) (hown : s.vm.findClass own = some m.cls) (htg : ∀ w ∈ wB, w.before args s = true) (hK : va_K D vwCl (fTys ct) s) (hI : fI 5 ad) (hS : va_S A0 H0 H locs) (hP : fP D 5 ad (lwc ct Z r) H) (hA0 : ∀ i, i < 5 → A0 (ad i)) (hml : c.maxLocals = nL) (hl : ls.size = nL)
    (hM : FMet l y cy maxL ret fr lo D ct 5 ad As (lwc ct Z r) none (lwc ct Y q)) (hcw : cwg own idx y cy maxL ret n)
    (hst : st0 = As.reverse ++ rest) (hn : As.length = n) (hR : fr + 1 ≤ R.frames ∧ 8 + (maxL + 11) + lo ≤ R.locals) (hroom : (rest.map fun v => v.category).sum ≤ 8) (hdg : decode cc pc = .ok (.invokestatic idx, 3)) (hf : cells ≤ R.cells ∧ slots ≤ R.slots)
    (kk : ∀ (H1 : Heap) (locs1 : List Loc), fP D 5 ad (lwc ct Y q) H1 → va_S A0 H0 H1 locs1 → W p l e R s m args below meth c H1 locs1 cells slots Q (F0 m (pc + 3) ls (rest))) : W p l e R s m args below meth c H locs cells slots Q (F0 m pc ls st0) :=
  fc_S hx hb hml hown htg hK hS hl hI hP (fun q9 ⟨i9, h9, e9⟩ => by rw [e9]; exact hA0 i9 h9) hM hcw hst hn hR hroom hdg hf fun H1 l1 h1 _ _ h4 => kk H1 l1 h1 h4
theorem lw_ishr (hexec : p.tables.exec = Jvm.exec) (hb : c.code = cc) {x y v : Int32} (hv : x >>> (y &&& 31) = v) (hdg : decode cc pc = .ok (.ishr, 1))
    (k : W p l e R s m args below meth c H locs cells slots Q (F0 m (pc + 1) ls (.int v :: rest))) : W p l e R s m args below meth c H locs cells slots Q (F0 m pc ls (.int y :: .int x :: rest)) := by
  subst hv
  exact lv_ishr hexec hb hdg k
end LWL
