/-! A MARKET'S ROW: what every call keeps -/
def rI (Z : Nat → Int32) (n : Nat) : Prop := oI Z n ∧ hOn Z ∧ unS Z n ∧ ∃ h, h ≤ 9999 ∧ bN Z n h
theorem eqZ_bN {M Z : Nat → Int32} {n h : Nat} (he : eqZ M Z n) (hb : bN Z n h) : bN M n h := by
  obtain ⟨b1, ⟨s, s1, s2⟩, b3, b4⟩ := hb
  exact ⟨(he 3 (by omega)).trans b1, ⟨s, s1, (he 6 (by omega)).trans s2⟩, fun k hk => by rw [he _ (by omega)]; exact b3 k hk, fun b hb => by rw [he _ (by omega)]; exact b4 b hb⟩
theorem eqZ_rI {M Z : Nat → Int32} {n : Nat} (he : eqZ M Z n) (h : rI Z n) : rI M n := by
  obtain ⟨h1, h2, h3, t, t1, t2⟩ := h
  refine ⟨oI_eq h1 he, fun b hb q => ?_, fun i j hi hj q1 q2 => ?_, t, t1, eqZ_bN he t2⟩
  · rw [he _ (by omega)] at q ⊢; exact h2 b hb q
  · rw [he _ (by omega), he _ (by omega)] at q1
    rw [he _ (by omega)] at q2
    exact h3 i j hi hj q1 q2
theorem bN_upd {Z : Nat → Int32} {n h i : Nat} {v : Int32} (hb : bN Z n h) (h3 : i ≠ 3) (h6 : i ≠ 6) (hk : ∀ k, k < n → i ≠ 39 + 8 * k + 7) (ht : ∀ b, b < 4 → i ≠ 7 + 5 * b + 3) : bN (upd Z i v) n h := by
  obtain ⟨b1, ⟨s, s1, s2⟩, b3, b4⟩ := hb
  exact ⟨by rw [upd_n (Ne.symm h3)]; exact b1, ⟨s, s1, by rw [upd_n (Ne.symm h6)]; exact s2⟩, fun k hk1 => by rw [upd_n (Ne.symm (hk k hk1))]; exact b3 k hk1, fun b hb1 => by rw [upd_n (Ne.symm (ht b hb1))]; exact b4 b hb1⟩
theorem unS_upd {Z : Nat → Int32} {n i : Nat} {v : Int32} (h : unS Z n) (hi : ∀ k, k < n → i ≠ 39 + 8 * k + 4) : unS (upd Z i v) n := by
  intro a b ha hb q1 q2
  rw [upd_n (Ne.symm (hi a ha)), upd_n (Ne.symm (hi b hb))] at q1
  rw [upd_n (Ne.symm (hi a ha))] at q2
  exact h a b ha hb q1 q2
/-- hours -/
theorem rI_hs {Z : Nat → Int32} {n tm : Nat} (h : rI Z n) (ht : tm ≤ 48) (hr : Z 3 + nI tm ≤ nI 9999) : rI (hsZ Z n tm) n := by
  obtain ⟨h1, h2, h3, t, t1, t2⟩ := h
  have hx := hs_all (M := Z) eqZ_rfl h1 h2 tm
  have hb := hs_bN h1 h2 t2 tm
  have h10 := h1.1
  refine ⟨hx.2.1, hx.2.2, fun i j hi hj q1 q2 => ?_, t + tm, ?_, hb⟩
  · have e : ∀ k, k < n → hsZ Z n tm (39 + 8 * k + 4) = Z (39 + 8 * k + 4) := fun k hk => hs_at (oI_zW h1) (by omega) (by omega) (by omega) (fun _ => ⟨by omega, by omega, by omega⟩) (fun _ _ => ⟨by omega, by omega, by omega, by omega⟩) tm
    rw [e i hi, e j hj] at q1
    rw [e i hi] at q2
    exact h3 i j hi hj q1 q2
  · rw [t2.1, nI_add] at hr
    have := (n_le (a := t + tm) (b := 9999) (by omega) (by omega)).mp hr
    omega
/-- a stall comes -/
theorem come_at {Z : Nat → Int32} {n z : Nat} {a0 a1 a2 a3 : Int32} (hz : z < 39 + 8 * n) (h4 : z ≠ 4) : comeZ Z n a0 a1 a2 a3 z = Z z := by
  unfold comeZ
  rw [upd_n h4, upd_n (by omega), upd_n (by omega), upd_n (by omega), upd_n (by omega), upd_n (by omega), upd_n (by omega), upd_n (by omega), upd_n (by omega)]
theorem come_new {Z : Nat → Int32} {n : Nat} {a0 a1 a2 a3 : Int32} : comeZ Z n a0 a1 a2 a3 4 = nI (n + 1) ∧ comeZ Z n a0 a1 a2 a3 (39 + 8 * n + 0) = a0 ∧ comeZ Z n a0 a1 a2 a3 (39 + 8 * n + 1) = a1 ∧ comeZ Z n a0 a1 a2 a3 (39 + 8 * n + 2) = a2 ∧ comeZ Z n a0 a1 a2 a3 (39 + 8 * n + 3) = a3 ∧ comeZ Z n a0 a1 a2 a3 (39 + 8 * n + 4) = -1 ∧ comeZ Z n a0 a1 a2 a3 (39 + 8 * n + 5) = nI 0 ∧ comeZ Z n a0 a1 a2 a3 (39 + 8 * n + 6) = nI 0 ∧ comeZ Z n a0 a1 a2 a3 (39 + 8 * n + 7) = nI 0 := by
  unfold comeZ
  refine ⟨upd_s, ?_, ?_, ?_, ?_, ?_, ?_, ?_, ?_⟩
  all_goals repeat (first | rw [upd_s] | rw [upd_n (by omega)])
theorem cOk_load {n k a : Nat} {x : Int32} (hn : n ≤ 10) (hk : k < n) (h1 : 1 ≤ a) (h2 : a ≤ 500) (hx : x = nI a) : cOk n (39 + 8 * k + 0) x :=
  ⟨fun e => by omega, fun e => by omega, fun e => by omega, fun _ _ _ => ⟨a, h1, h2, hx⟩, fun k hk1 e => by omega, fun k hk1 e => by omega, fun k hk1 e => by omega, fun c hb1 e => by omega, fun c hb1 e => by omega, fun c hb1 e => by omega, fun q hq1 e => by omega⟩
theorem cOk_rank {n k a : Nat} {x : Int32} (hn : n ≤ 10) (hk : k < n) (h1 : 1 ≤ a) (h2 : a ≤ 9) (hx : x = nI a) : cOk n (39 + 8 * k + 3) x :=
  ⟨fun e => by omega, fun e => by omega, fun e => by omega, fun k hk1 e => by omega, fun _ _ _ => ⟨a, h1, h2, hx⟩, fun k hk1 e => by omega, fun k hk1 e => by omega, fun c hb1 e => by omega, fun c hb1 e => by omega, fun c hb1 e => by omega, fun q hq1 e => by omega⟩
theorem cOk_more {n i : Nat} {x : Int32} (h : cOk n i x) (hi : i < 39 + 8 * n) (h4 : i ≠ 4) : cOk (n + 1) i x :=
  ⟨h.1, fun e => absurd e h4, h.2.2.1, fun k _ e => h.2.2.2.1 k (by omega) e, fun k _ e => h.2.2.2.2.1 k (by omega) e, fun k _ e => h.2.2.2.2.2.1 k (by omega) e, fun k _ e => h.2.2.2.2.2.2.1 k (by omega) e, h.2.2.2.2.2.2.2⟩
theorem inB_ex {v : Int32} {lo hi : Nat} (hlo : lo < 2147483648) (hhi : hi < 2147483648) (h : inB v (nI lo) (nI hi) = true) : ∃ a, lo ≤ a ∧ a ≤ hi ∧ v = nI a := by
  obtain ⟨h1, h2, h3⟩ := inB_n hlo hhi h
  exact ⟨iN v, h2, h3, h1⟩
theorem rI_come {Z : Nat → Int32} {n : Nat} {a0 a1 a2 a3 : Int32} (h : rI Z n) (hn : n < 10) (h0 : inB a0 (nI 1) (nI 500) = true) (h3 : inB a3 (nI 1) (nI 9) = true) : rI (comeZ Z n a0 a1 a2 a3) (n + 1) := by
  obtain ⟨o, ho, hu, t, t1, t2⟩ := h
  obtain ⟨l, l1, l2, l3⟩ := inB_ex (by omega) (by omega) h0
  obtain ⟨r, r1, r2, r3⟩ := inB_ex (by omega) (by omega) h3
  obtain ⟨c4, n0, n1, n2, n3, n4, n5, n6, n7⟩ := come_new (Z := Z) (n := n) (a0 := a0) (a1 := a1) (a2 := a2) (a3 := a3)
  have hat : ∀ z, z < 39 + 8 * n → z ≠ 4 → comeZ Z n a0 a1 a2 a3 z = Z z := fun z hz h4 => come_at hz h4
  generalize comeZ Z n a0 a1 a2 a3 = Y at c4 n0 n1 n2 n3 n4 n5 n6 n7 hat ⊢
  refine ⟨⟨by omega, fun i hi => ?_⟩, fun b hb q => ?_, fun i j hi hj q1 q2 => ?_, t, t1, ?_⟩
  · by_cases e4 : i = 4
    · subst e4; rw [c4]
      exact ⟨fun e => by omega, fun _ => rfl, fun e => by omega, fun k hk1 e => by omega, fun k hk1 e => by omega, fun k hk1 e => by omega, fun k hk1 e => by omega, fun c hb1 e => by omega, fun c hb1 e => by omega, fun c hb1 e => by omega, fun q hq1 e => by omega⟩
    · by_cases ei : i < 39 + 8 * n
      · rw [hat i ei e4]; exact cOk_more (o.2 i ei) ei e4
      · rcases (show i = 39 + 8 * n + 0 ∨ i = 39 + 8 * n + 1 ∨ i = 39 + 8 * n + 2 ∨ i = 39 + 8 * n + 3 ∨ i = 39 + 8 * n + 4 ∨ i = 39 + 8 * n + 5 ∨ i = 39 + 8 * n + 6 ∨ i = 39 + 8 * n + 7 by omega) with e | e | e | e | e | e | e | e
        · rw [e, n0]; exact cOk_load (by omega) (by omega) l1 l2 l3
        · rw [e]; exact cOk_free (by omega) (by omega) (by omega) (fun _ _ => ⟨by omega, by omega, by omega, by omega⟩) (fun _ _ => ⟨by omega, by omega, by omega⟩) (fun _ _ => by omega)
        · rw [e]; exact cOk_free (by omega) (by omega) (by omega) (fun _ _ => ⟨by omega, by omega, by omega, by omega⟩) (fun _ _ => ⟨by omega, by omega, by omega⟩) (fun _ _ => by omega)
        · rw [e, n3]; exact cOk_rank (by omega) (by omega) r1 r2 r3
        · rw [e, n4]; exact cOk_sock (by omega) (by omega) (Or.inl rfl)
        · rw [e, n5]; exact cOk_flag (Or.inl rfl) (by omega) (by omega) (fun _ _ => ⟨by omega, by omega, by omega⟩) (fun _ _ => ⟨by omega, by omega⟩)
        · rw [e]; exact cOk_free (by omega) (by omega) (by omega) (fun _ _ => ⟨by omega, by omega, by omega, by omega⟩) (fun _ _ => ⟨by omega, by omega, by omega⟩) (fun _ _ => by omega)
        · rw [e]; exact cOk_free (by omega) (by omega) (by omega) (fun _ _ => ⟨by omega, by omega, by omega, by omega⟩) (fun _ _ => ⟨by omega, by omega, by omega⟩) (fun _ _ => by omega)
  · rw [hat _ (by omega) (by omega)] at q ⊢; exact ho b hb q
  · by_cases ei : i = n
    · subst ei; exact absurd n4 q2
    · by_cases ej : j = n
      · subst ej; rw [n4] at q1; exact absurd q1 q2
      · rw [hat _ (by omega) (by omega), hat _ (by omega) (by omega)] at q1
        rw [hat _ (by omega) (by omega)] at q2
        exact hu i j (by omega) (by omega) q1 q2
  · obtain ⟨b1, ⟨s, s1, s2⟩, b3, b4⟩ := t2
    refine ⟨by rw [hat _ (by omega) (by omega)]; exact b1, ⟨s, s1, by rw [hat _ (by omega) (by omega)]; exact s2⟩, fun k hk => ?_, fun b hb => by rw [hat _ (by omega) (by omega)]; exact b4 b hb⟩
    by_cases ek : k = n
    · subst ek; exact ⟨0, Nat.zero_le _, n7⟩
    · rw [hat _ (by omega) (by omega)]; exact b3 k (by omega)
theorem come_eq {M Z : Nat → Int32} {n : Nat} {a0 a1 a2 a3 : Int32} (h : eqZ M Z n) : eqZ (upd (cBeg M n a0 a1 a2 a3) 4 (nI (n + 1))) (comeZ Z n a0 a1 a2 a3) (n + 1) := by
  intro z hz
  have e : upd (cBeg M n a0 a1 a2 a3) 4 (nI (n + 1)) = comeZ M n a0 a1 a2 a3 := rfl
  rw [e]
  obtain ⟨c4, n0, n1, n2, n3, n4, n5, n6, n7⟩ := come_new (Z := Z) (n := n) (a0 := a0) (a1 := a1) (a2 := a2) (a3 := a3)
  obtain ⟨d4, m0, m1, m2, m3, m4, m5, m6, m7⟩ := come_new (Z := M) (n := n) (a0 := a0) (a1 := a1) (a2 := a2) (a3 := a3)
  by_cases e4 : z = 4
  · subst e4; rw [c4, d4]
  · by_cases ei : z < 39 + 8 * n
    · rw [come_at ei e4, come_at ei e4]; exact h z ei
    · rcases (show z = 39 + 8 * n + 0 ∨ z = 39 + 8 * n + 1 ∨ z = 39 + 8 * n + 2 ∨ z = 39 + 8 * n + 3 ∨ z = 39 + 8 * n + 4 ∨ z = 39 + 8 * n + 5 ∨ z = 39 + 8 * n + 6 ∨ z = 39 + 8 * n + 7 by omega) with e | e | e | e | e | e | e | e
      · rw [e, n0, m0]
      · rw [e, n1, m1]
      · rw [e, n2, m2]
      · rw [e, n3, m3]
      · rw [e, n4, m4]
      · rw [e, n5, m5]
      · rw [e, n6, m6]
      · rw [e, n7, m7]
/-- a stall at a socket that is free -/
theorem sat_free {Z : Nat → Int32} {n : Nat} {q : Int32} (hn : n ≤ 10) (h : ox (satN Z q n) = -1) : ∀ i, i < n → ¬ Z (39 + 8 * i + 4) = q := by
  rcases satN_at (Z := Z) (q := q) n hn with ⟨_, h2⟩ | ⟨h1, _⟩
  · exact h2
  · rw [ox_n (by omega)] at h; exact absurd h (nI_nm1 (by omega))
theorem rI_plug {Z : Nat → Int32} {n k q : Nat} (h : rI Z n) (hk : k < n) (hq : q < 12) (hf : ∀ i, i < n → ¬ Z (39 + 8 * i + 4) = nI q) : rI (upd Z (39 + 8 * k + 4) (nI q)) n := by
  obtain ⟨o, ho, hu, t, t1, t2⟩ := h
  have h10 := o.1
  refine ⟨oI_upd o (cOk_sock h10 hk (Or.inr ⟨q, hq, rfl⟩)), hOn_upd ho (fun _ _ => ⟨by omega, by omega⟩), fun i j hi hj q1 q2 => ?_, t, t1, bN_upd t2 (by omega) (by omega) (fun _ _ => by omega) (fun _ _ => by omega)⟩
  by_cases ei : i = k
  · by_cases ej : j = k
    · rw [ei, ej]
    · rw [ei, upd_s, upd_n (by omega)] at q1; exact absurd q1.symm (hf j hj)
  · by_cases ej : j = k
    · rw [ej, upd_s, upd_n (by omega)] at q1; exact absurd q1 (hf i hi)
    · rw [upd_n (by omega), upd_n (by omega)] at q1
      rw [upd_n (by omega)] at q2
      exact hu i j hi hj q1 q2
theorem rI_pull {Z : Nat → Int32} {n k : Nat} (h : rI Z n) (hk : k < n) : rI (upd Z (39 + 8 * k + 4) (-1)) n := by
  obtain ⟨o, ho, hu, t, t1, t2⟩ := h
  have h10 := o.1
  refine ⟨oI_upd o (cOk_sock h10 hk (Or.inl rfl)), hOn_upd ho (fun _ _ => ⟨by omega, by omega⟩), fun i j hi hj q1 q2 => ?_, t, t1, bN_upd t2 (by omega) (by omega) (fun _ _ => by omega) (fun _ _ => by omega)⟩
  by_cases ei : i = k
  · rw [ei, upd_s] at q2; exact absurd rfl q2
  · by_cases ej : j = k
    · rw [ej, upd_s] at q1; exact absurd q1 q2
    · rw [upd_n (by omega), upd_n (by omega)] at q1
      rw [upd_n (by omega)] at q2
      exact hu i j hi hj q1 q2
theorem rI_shed {Z : Nat → Int32} {n k : Nat} {v : Int32} (h : rI Z n) (hk : k < n) (hv : v = 0 ∨ v = 1) : rI (upd Z (39 + 8 * k + 5) v) n := by
  obtain ⟨o, ho, hu, t, t1, t2⟩ := h
  have h10 := o.1
  exact ⟨oI_upd o (cOk_flag hv (by omega) (by omega) (fun _ _ => ⟨by omega, by omega, by omega⟩) (fun _ _ => ⟨by omega, by omega⟩)), hOn_upd ho (fun _ _ => ⟨by omega, by omega⟩), unS_upd hu (fun _ _ => by omega), t, t1, bN_upd t2 (by omega) (by omega) (fun _ _ => by omega) (fun _ _ => by omega)⟩
theorem rI_bound {Z : Nat → Int32} {n b : Nat} {v : Int32} (h : rI Z n) (hb : b < 4) (hv : inB v (nI 10) (nI 999) = true) : rI (upd Z (7 + 5 * b + 0) v) n := by
  obtain ⟨o, ho, hu, t, t1, t2⟩ := h
  have h10 := o.1
  obtain ⟨a, a1, a2, a3⟩ := inB_ex (by omega) (by omega) hv
  exact ⟨oI_upd o (cOk_bound h10 hb a1 a2 a3), hOn_upd ho (fun _ _ => ⟨by omega, by omega⟩), unS_upd hu (fun _ _ => by omega), t, t1, bN_upd t2 (by omega) (by omega) (fun _ _ => by omega) (fun _ _ => by omega)⟩
theorem rI_pon {Z : Nat → Int32} {n b : Nat} (h : rI Z n) (hb : b < 4) : rI (pon Z b) n := by
  obtain ⟨o, ho, hu, t, t1, t2⟩ := h
  have h10 := o.1
  unfold pon
  refine ⟨oI_upd (oI_upd o (cOk_flag (Or.inr rfl) (by omega) (by omega) (fun _ _ => ⟨by omega, by omega, by omega⟩) (fun _ _ => ⟨by omega, by omega⟩))) (cOk_heat h10 hb (a := 0) (by omega) rfl), fun c hc q => ?_, unS_upd (unS_upd hu (fun _ _ => by omega)) (fun _ _ => by omega), t, t1, bN_upd (bN_upd t2 (by omega) (by omega) (fun _ _ => by omega) (fun _ _ => by omega)) (by omega) (by omega) (fun _ _ => by omega) (fun _ _ => by omega)⟩
  by_cases e : c = b
  · subst e; rw [upd_s]; exact ⟨0, by omega, rfl⟩
  · rw [upd_n (by omega), upd_n (by omega)] at q ⊢; exact ho c hc q
theorem rI_over {Z : Nat → Int32} {n q : Nat} {v : Int32} (h : rI Z n) (hq : q < 12) (hv : v = 0 ∨ v = 1) : rI (upd Z (27 + q) v) n := by
  obtain ⟨o, ho, hu, t, t1, t2⟩ := h
  have h10 := o.1
  exact ⟨oI_upd o (cOk_flag hv (by omega) (by omega) (fun _ _ => ⟨by omega, by omega, by omega⟩) (fun _ _ => ⟨by omega, by omega⟩)), hOn_upd ho (fun _ _ => ⟨by omega, by omega⟩), unS_upd hu (fun _ _ => by omega), t, t1, bN_upd t2 (by omega) (by omega) (fun _ _ => by omega) (fun _ _ => by omega)⟩
theorem rI_set {Z : Nat → Int32} {n w : Nat} {v : Int32} (h : rI Z n) (hw : w < 3) (h0 : w = 0 → inB v (nI 1) (nI 9) = true) (h1 : w = 1 → v = 0 ∨ v = 1) : rI (upd Z (0 + w) v) n := by
  obtain ⟨o, ho, hu, t, t1, t2⟩ := h
  have h10 := o.1
  refine ⟨oI_upd o ⟨fun e => ?_, fun e => by omega, fun e => h1 (by omega), fun k hk1 e => by omega, fun k hk1 e => by omega, fun k hk1 e => by omega, fun k hk1 e => by omega, fun c hb1 e => by omega, fun c hb1 e => by omega, fun c hb1 e => by omega, fun q hq1 e => by omega⟩, hOn_upd ho (fun _ _ => ⟨by omega, by omega⟩), unS_upd hu (fun _ _ => by omega), t, t1, bN_upd t2 (by omega) (by omega) (fun _ _ => by omega) (fun _ _ => by omega)⟩
  exact inB_ex (by omega) (by omega) (h0 (by omega))
theorem flip_eq {x : Int32} (h : x = 0 ∨ x = 1) : (if x = 0 then nI 1 else nI 0) = nI 1 - x ∧ (nI 1 - x = 0 ∨ nI 1 - x = 1) := by
  rcases h with rfl | rfl
  · exact ⟨by decide, by decide⟩
  · exact ⟨by decide, by decide⟩
/-- hours passed: the answer -/
theorem pass_eq {M Z : Nat → Int32} {n tm : Nat} (h : eqZ M Z n) (hO : oI Z n) (ho : hOn Z) : cSb (cHs M n tm) 3 4 - cSb M 3 4 = hsT Z n tm := by
  rw [sb_eq (hs_all h hO ho tm).1 (by omega) 4 (Nat.le_refl 4), sb_eq h (by omega) 4 (Nat.le_refl 4), hs_sum (oI_zW hO) tm, sub_l]
theorem pon_eq {M Z : Nat → Int32} {n b : Nat} (h : eqZ M Z n) : eqZ (cPon M b) (pon Z b) n := eqZ_upd (eqZ_upd h)

