/-! WHAT IS MADE: constructors called; the small ones -/
section MKI
variable {p : Program} {l : Launch} {e : Env} {R : Room} {s : State} {m : MethodId} {args : Array Value} {below : List Frame} {meth : Method} {c : Code} {H : Heap} {locs : List Loc} {cells slots : Nat} {Q : State → Prop}
variable {cc : ByteArray} {pc : Nat} {ls : Array Slot} {rest : List Value} {D : va_G} {ct : Nat → ClassId} {N0 : Nat} {ad : Nat → Nat} {ce : Nat → va_E} {A0 : Nat → Prop} {H0 : Heap}
theorem cnP_blind {q sz ci : Nat} {fs : List Value} : FrameBlind (va_Pc [.ref q] (cnP D ct q sz ci fs)) := fun a U g mk z => by
  obtain ⟨q0, q1, q2, qP, qK, qE⟩ := z
  exact ⟨q0, q1, q2, qP, va_K.moved (u := U) (U := U.calling g mk a) (Vm.Alike.refl U.vm) qK, kE.to (s := U) (U := U.calling g mk a) qE (State.WarmedH.refl U) (fun _ _ _ => rfl)⟩
def adJ (ad ad1 : Nat → Nat) (N0 : Nat) : Nat → Nat := fun k => if k < N0 then ad k else ad1 (k - N0)
def ceJ (ce : Nat → va_E) (ce1 : (Nat → Nat) → Nat → va_E) (ad : Nat → Nat) (N0 : Nat) : Nat → va_E := fun k => if k < N0 then ce k else ce1 (fun z => ad (N0 + z)) (k - N0)
theorem rn_init {nL : Nat} {own : String} {y : MethodName} {cy : ByteArray} {maxL fr lo mc ms n ci idx : Nat} {fs : List Value} {ce1 : (Nat → Nat) → Nat → va_E} (hx : p.tables.exec = Jvm.exec) (hb : c.code = cc) (hml : c.maxLocals = nL) (hl : ls.size = nL) (hown : s.vm.findClass own = some m.cls) (htg : ∀ w ∈ wB, w.before args s = true) (hK : va_K D vwCl (fTys ct) s) (hI : fI (N0 + 1) ad) (hP : fP D (N0 + 1) ad ce H) (hA0 : ∀ k, k < N0 + 1 → A0 (ad k)) (hS : va_S A0 s.heap H locs) (hA : ∀ q, s.heap.size ≤ q → A0 q) (hE : kE A0 s s.heap)
    (hn1 : 1 ≤ n) (hce : ce N0 = .inr (ci, fs)) (hM : CMet l y cy maxL fr lo mc ms D ct (ad N0) H.size ci fs n ce1) (hlink : Cond.methodLink own idx y ∈ wB) (hini : Cond.initialized y.cls ∈ wB) (hinst : Cond.instanceMethod y ∈ wB) (hcode : Cond.code y cy maxL none ∈ wB) (hyn : y.name = "<init>") (hd : y.cls ≠ "java/lang/invoke/MethodHandle" ∧ y.cls ≠ "java/lang/invoke/VarHandle" ∧ (parseMethodDescriptor y.desc).map (fun d => d.parameters.length) = some 0)
    (hR : fr + 1 ≤ R.frames ∧ 8 + (maxL + 11) + lo ≤ R.locals) (hroom : (rest.map fun v => v.category).sum ≤ 8) (hdg : decode cc pc = .ok (.invokespecial idx, 3)) (hf : cells + mc ≤ R.cells ∧ slots + ms ≤ R.slots)
    (kk : ∀ (ad' : Nat → Nat) (H1 : Heap) (locs1 : List Loc), (∀ k, k < N0 + 1 → ad' k = ad k) → fP D (N0 + n) ad' (ceJ ce ce1 ad' N0) H1 → fI (N0 + n) ad' → (∀ k, k < N0 + n → A0 (ad' k)) → va_S A0 s.heap H1 locs1 → W p l e R s m args below meth c H1 locs1 (cells + mc) (slots + ms) Q (F0 m (pc + 3) ls rest)) : W p l e R s m args below meth c H locs cells slots Q (F0 m pc ls (.ref (ad N0) :: rest)) := by
  intro T hT X
  have hG : GoodIn wB (Cond.code y cy maxL none :: wB) := fun w hw => by
    rcases List.mem_cons.mp hw with rfl | hw
    · exact wB_self _ hcode
    · exact wB_self _ hw
  have hfree : ∀ x, nZ (ad N0) H.size x → A0 x := fun x hx => by
    rcases hx with rfl | hx
    · exact hA0 N0 (Nat.lt_succ_self N0)
    · exact hA x (Nat.le_trans hS.1 hx)
  obtain ⟨v, st₀, t, T', L, h0, X', hL, e1, e2, ⟨⟨hv, ad1, ha0, hab, hI1, hP1⟩, hz, hk⟩, st⟩ := va_runI (As := []) (rest := rest) (g := F0 m pc ls (.ref (ad N0) :: rest)) ⟨hx, hb, hml, hown, htg⟩ hM (cwI 0 htg hG rfl rfl rfl (htg _ hini) (htg _ hlink) (htg _ hinst) hyn hd hR) ⟨cnP_blind, fun U hU hW => ⟨rfl, by rw [hU], hP.lt (Nat.lt_succ_self N0), by rw [hU]; exact fP.of (fun k hk1 => by rw [← hce]; exact hP.at (Nat.lt_succ_self N0)), va_K.moved hW.alike hK, by rw [hU]; exact (hE.to hW hS.2.1).narrow hfree⟩⟩ rfl rfl hl rfl (lv_room hroom) hdg hf T hT X
  cases hv
  rw [h0] at hz hk
  have hlt : ∀ k, k < N0 + 1 → ad k < H.size := fun k hk1 => hP.lt hk1
  have had : ∀ k, k < N0 + 1 → adJ ad ad1 N0 k = ad k := fun k hk1 => by
    unfold adJ
    by_cases q : k < N0
    · rw [if_pos q]
    · rw [if_neg q, show k = N0 by omega, Nat.sub_self, ha0]
  have hfn : (fun z => adJ ad ad1 N0 (N0 + z)) = ad1 := by
    funext z; unfold adJ; rw [if_neg (by omega), show N0 + z - N0 = z by omega]
  have hnot : ∀ k, k < N0 → ¬ nZ (ad N0) H.size (ad k) := fun k hk1 h => by
    rcases h with h | h
    · have := hI k N0 (by omega) (by omega) h; omega
    · have := hlt k (by omega); omega
  have hP' : fP D (N0 + n) (adJ ad ad1 N0) (ceJ ce ce1 (adJ ad ad1 N0) N0) T'.heap := fP.of (fun k hk1 => by
    unfold ceJ
    rw [hfn]
    by_cases q : k < N0
    · rw [if_pos q, show adJ ad ad1 N0 k = ad k from had k (by omega), e1]
      exact (hP.at (by omega)).kept (hk _ (hlt k (by omega)) (hnot k q))
    · rw [if_neg q, show adJ ad ad1 N0 k = ad1 (k - N0) from if_neg q, e1]
      exact hP1.at (by omega))
  have hI' : fI (N0 + n) (adJ ad ad1 N0) := fun i j hi hj h => by
    unfold adJ at h
    by_cases qi : i < N0
    · by_cases qj : j < N0
      · rw [if_pos qi, if_pos qj] at h; exact hI i j (by omega) (by omega) h
      · rw [if_pos qi, if_neg qj] at h
        by_cases z : j - N0 = 0
        · rw [z, ha0] at h; have := hI i N0 (by omega) (by omega) h; omega
        · have h1 := hab (j - N0) (by omega) (by omega)
          have h2 := hlt i (by omega)
          omega
    · by_cases qj : j < N0
      · rw [if_neg qi, if_pos qj] at h
        by_cases z : i - N0 = 0
        · rw [z, ha0] at h; have := hI N0 j (by omega) (by omega) h; omega
        · have h1 := hab (i - N0) (by omega) (by omega)
          have h2 := hlt j (by omega)
          omega
      · rw [if_neg qi, if_neg qj] at h
        have := hI1 _ _ (show i - N0 < n by omega) (show j - N0 < n by omega) h
        omega
  have hA' : ∀ k, k < N0 + n → A0 (adJ ad ad1 N0 k) := fun k hk1 => by
    by_cases q : k < N0 + 1
    · rw [had k q]; exact hA0 k q
    · unfold adJ; rw [if_neg (by omega)]
      exact hA _ (Nat.le_trans hS.1 (hab _ (by omega) (by omega)))
  obtain ⟨t2, a1, b1⟩ := kk (adJ ad ad1 N0) T'.heap (locs ++ L) had hP' hI' hA'
    ⟨Nat.le_trans hS.1 (by rw [e1]; exact hz), fun q h1 h2 => by rw [e1, hk q (Nat.lt_of_lt_of_le h1 hS.1) (fun z => h2 (hfree q z))]; exact hS.2.1 q h1 h2, fun q hq => by
      rcases List.mem_append.mp hq with h | h
      · exact hS.2.2 q h
      · exact hfree _ (hL q h)⟩ T' rfl X'
  exact ⟨t2, st t2 a1, b1⟩
theorem rn_initN {nL : Nat} {own host : String} {y : MethodName} {cy : ByteArray} {maxL fr lo mc ms n ci idx : Nat} {fs : List Value} {ce1 : (Nat → Nat) → Nat → va_E} (hx : p.tables.exec = Jvm.exec) (hb : c.code = cc) (hml : c.maxLocals = nL) (hl : ls.size = nL) (hown : s.vm.findClass own = some m.cls) (htg : ∀ w ∈ wB, w.before args s = true) (hK : va_K D vwCl (fTys ct) s) (hI : fI (N0 + 1) ad) (hP : fP D (N0 + 1) ad ce H) (hA0 : ∀ k, k < N0 + 1 → A0 (ad k)) (hS : va_S A0 s.heap H locs) (hA : ∀ q, s.heap.size ≤ q → A0 q) (hE : kE A0 s s.heap)
    (hn1 : 1 ≤ n) (hce : ce N0 = .inr (ci, fs)) (hM : CMet l y cy maxL fr lo mc ms D ct (ad N0) H.size ci fs n ce1) (hlink : va_Nw (.methodLinkNest own idx y host) s) (hini : Cond.initialized y.cls ∈ wB) (hinst : Cond.instanceMethod y ∈ wB) (hcode : Cond.code y cy maxL none ∈ wB) (hyn : y.name = "<init>") (hd : y.cls ≠ "java/lang/invoke/MethodHandle" ∧ y.cls ≠ "java/lang/invoke/VarHandle" ∧ (parseMethodDescriptor y.desc).map (fun d => d.parameters.length) = some 0)
    (hR : fr + 1 ≤ R.frames ∧ 8 + (maxL + 11) + lo ≤ R.locals) (hroom : (rest.map fun v => v.category).sum ≤ 8) (hdg : decode cc pc = .ok (.invokespecial idx, 3)) (hf : cells + mc ≤ R.cells ∧ slots + ms ≤ R.slots)
    (kk : ∀ (ad' : Nat → Nat) (H1 : Heap) (locs1 : List Loc), (∀ k, k < N0 + 1 → ad' k = ad k) → fP D (N0 + n) ad' (ceJ ce ce1 ad' N0) H1 → fI (N0 + n) ad' → (∀ k, k < N0 + n → A0 (ad' k)) → va_S A0 s.heap H1 locs1 → W p l e R s m args below meth c H1 locs1 (cells + mc) (slots + ms) Q (F0 m (pc + 3) ls rest)) : W p l e R s m args below meth c H locs cells slots Q (F0 m pc ls (.ref (ad N0) :: rest)) := by
  intro T hT X
  have hG : GoodIn wB (Cond.code y cy maxL none :: wB) := fun w hw => by
    rcases List.mem_cons.mp hw with rfl | hw
    · exact wB_self _ hcode
    · exact wB_self _ hw
  have hfree : ∀ x, nZ (ad N0) H.size x → A0 x := fun x hx => by
    rcases hx with rfl | hx
    · exact hA0 N0 (Nat.lt_succ_self N0)
    · exact hA x (Nat.le_trans hS.1 hx)
  obtain ⟨v, st₀, t, T', L, h0, X', hL, e1, e2, ⟨⟨hv, ad1, ha0, hab, hI1, hP1⟩, hz, hk⟩, st⟩ := va_runIN (As := []) (rest := rest) (g := F0 m pc ls (.ref (ad N0) :: rest)) ⟨hx, hb, hml, hown, htg⟩ hM ⟨va_cnB 0 htg hG rfl rfl rfl hlink (htg _ hini) hd hR, hyn, htg _ hinst⟩ ⟨cnP_blind, fun U hU hW => ⟨rfl, by rw [hU], hP.lt (Nat.lt_succ_self N0), by rw [hU]; exact fP.of (fun k hk1 => by rw [← hce]; exact hP.at (Nat.lt_succ_self N0)), va_K.moved hW.alike hK, by rw [hU]; exact (hE.to hW hS.2.1).narrow hfree⟩⟩ rfl rfl hl rfl (lv_room hroom) hdg hf T hT X
  cases hv
  rw [h0] at hz hk
  have hlt : ∀ k, k < N0 + 1 → ad k < H.size := fun k hk1 => hP.lt hk1
  have had : ∀ k, k < N0 + 1 → adJ ad ad1 N0 k = ad k := fun k hk1 => by
    unfold adJ
    by_cases q : k < N0
    · rw [if_pos q]
    · rw [if_neg q, show k = N0 by omega, Nat.sub_self, ha0]
  have hfn : (fun z => adJ ad ad1 N0 (N0 + z)) = ad1 := by
    funext z; unfold adJ; rw [if_neg (by omega), show N0 + z - N0 = z by omega]
  have hnot : ∀ k, k < N0 → ¬ nZ (ad N0) H.size (ad k) := fun k hk1 h => by
    rcases h with h | h
    · have := hI k N0 (by omega) (by omega) h; omega
    · have := hlt k (by omega); omega
  have hP' : fP D (N0 + n) (adJ ad ad1 N0) (ceJ ce ce1 (adJ ad ad1 N0) N0) T'.heap := fP.of (fun k hk1 => by
    unfold ceJ
    rw [hfn]
    by_cases q : k < N0
    · rw [if_pos q, show adJ ad ad1 N0 k = ad k from had k (by omega), e1]
      exact (hP.at (by omega)).kept (hk _ (hlt k (by omega)) (hnot k q))
    · rw [if_neg q, show adJ ad ad1 N0 k = ad1 (k - N0) from if_neg q, e1]
      exact hP1.at (by omega))
  have hI' : fI (N0 + n) (adJ ad ad1 N0) := fun i j hi hj h => by
    unfold adJ at h
    by_cases qi : i < N0
    · by_cases qj : j < N0
      · rw [if_pos qi, if_pos qj] at h; exact hI i j (by omega) (by omega) h
      · rw [if_pos qi, if_neg qj] at h
        by_cases z : j - N0 = 0
        · rw [z, ha0] at h; have := hI i N0 (by omega) (by omega) h; omega
        · have h1 := hab (j - N0) (by omega) (by omega)
          have h2 := hlt i (by omega)
          omega
    · by_cases qj : j < N0
      · rw [if_neg qi, if_pos qj] at h
        by_cases z : i - N0 = 0
        · rw [z, ha0] at h; have := hI N0 j (by omega) (by omega) h; omega
        · have h1 := hab (i - N0) (by omega) (by omega)
          have h2 := hlt j (by omega)
          omega
      · rw [if_neg qi, if_neg qj] at h
        have := hI1 _ _ (show i - N0 < n by omega) (show j - N0 < n by omega) h
        omega
  have hA' : ∀ k, k < N0 + n → A0 (adJ ad ad1 N0 k) := fun k hk1 => by
    by_cases q : k < N0 + 1
    · rw [had k q]; exact hA0 k q
    · unfold adJ; rw [if_neg (by omega)]
      exact hA _ (Nat.le_trans hS.1 (hab _ (by omega) (by omega)))
  obtain ⟨t2, a1, b1⟩ := kk (adJ ad ad1 N0) T'.heap (locs ++ L) had hP' hI' hA'
    ⟨Nat.le_trans hS.1 (by rw [e1]; exact hz), fun q h1 h2 => by rw [e1, hk q (Nat.lt_of_lt_of_le h1 hS.1) (fun z => h2 (hfree q z))]; exact hS.2.1 q h1 h2, fun q hq => by
      rcases List.mem_append.mp hq with h | h
      · exact hS.2.2 q h
      · exact hfree _ (hL q h)⟩ T' rfl X'
  exact ⟨t2, st t2 a1, b1⟩
end MKI
theorem ko_2 : Cond.instanceMethod Lib.objectInit ∈ wB := xb (by decide +kernel) rfl
theorem ko_3 : Cond.code Lib.objectInit ⟨#[0xb1]⟩ 1 none ∈ wB := xb (by decide +kernel) (by decide +kernel)
theorem ko_X0 : Cond.methodLink RX0 3 Lib.objectInit ∈ wB := xb (by decide +kernel) rfl
theorem ko_X1 : Cond.methodLink RX1 3 Lib.objectInit ∈ wB := xb (by decide +kernel) rfl
theorem ko_X2 : Cond.methodLink RX2 3 Lib.objectInit ∈ wB := xb (by decide +kernel) rfl
theorem ko_X3 : Cond.methodLink RX3 3 Lib.objectInit ∈ wB := xb (by decide +kernel) rfl
theorem ko_X4 : Cond.methodLink RX4 3 Lib.objectInit ∈ wB := xb (by decide +kernel) rfl
theorem ko_X5 : Cond.methodLink RX5 1 Lib.objectInit ∈ wB := xb (by decide +kernel) rfl
