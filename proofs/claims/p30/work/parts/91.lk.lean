/-! THE LAW'S CALLS of the object, in the law's words: Z is the row of numbers that the market answers to -/
def oS (ct : Nat → ClassId) (ad : Nat → Nat) (Ms : Nat → Nat → Int32) (nx sz : Nat) : Nat → va_E := csc ct ad Ms (fun _ => 0) (nI nx) (nI sz) (fun _ => 0) (fun _ => 0) (nI 0) (nI 0) 0
def OS (ct : Nat → ClassId) (ad : Nat → Nat) (O : Nat → va_E) (Z : Nat → Int32) (n : Nat) : Prop := ∃ Ms nx sz, O = oS ct ad Ms nx sz ∧ eqZ (Ms 0) Z n ∧ nx < 6 ∧ sz ≤ 6
theorem OS.h5 {ct : Nat → ClassId} {ad : Nat → Nat} {O : Nat → va_E} {Z : Nat → Int32} {n : Nat} (h : OS ct ad O Z n) : ∃ fs, O 0 = .inr (5, fs) := by
  obtain ⟨Ms, nx, sz, rfl, -⟩ := h
  exact ⟨_, rfl⟩
theorem svn_le {q : Nat} (h : q ≤ 6) : svn q ≤ 6 := by unfold svn; split <;> omega
theorem cn_w {Z : Nat → Int32} {s : Int32} {n w : Nat} (hw : w < 11) : cntD Z s n w = cntD Z 0 n w := by
  rcases (show w = 0 ∨ w = 1 ∨ w = 2 ∨ w = 3 ∨ w = 4 ∨ w = 5 ∨ w = 6 ∨ w = 7 ∨ w = 8 ∨ w = 9 ∨ w = 10 by omega) with rfl | rfl | rfl | rfl | rfl | rfl | rfl | rfl | rfl | rfl | rfl <;> rfl
section OSL
variable {l : Launch} {D : va_G} {ct : Nat → ClassId} {ad : Nat → Nat} {O : Nat → va_E} {Z : Nat → Int32} {n : Nat}
theorem os_stallOf {k w : Nat} (h : OS ct ad O Z n) (hO : oI Z n) (hk : k < n) (hw : w < 10) : FMet l yX5_stallOf cX5_stallOf 4 (some .int) 2 43 D ct 198 ad [.ref (ad 0), .int (nI k), .int (nI w)] O (some (.int (tldS Z k w))) O := by
  obtain ⟨Ms, nx, sz, rfl, he, h6, h7⟩ := h
  rw [← sto_eq he hO hk hw]
  exact mX5_stallOf l D ct ad Ms _ nx sz _ _ 0 0 _ k w n (oI_mW (oI_eq hO he)) (oI_bW (oI_eq hO he)) hk hw
theorem os_breaker {b w : Nat} (h : OS ct ad O Z n) (hO : oI Z n) (hb : b < 4) (hw : w < 7) : FMet l yX5_breaker cX5_breaker 4 (some .int) 3 66 D ct 198 ad [.ref (ad 0), .int (nI b), .int (nI w)] O (some (.int (tldB Z b n w))) O := by
  obtain ⟨Ms, nx, sz, rfl, he, h6, h7⟩ := h
  rw [← bre_eq he hO hb hw]
  exact mX5_breaker l D ct ad Ms _ nx sz _ _ 0 0 _ b w n (oI_mW (oI_eq hO he)) (oI_bW (oI_eq hO he)) hb hw
theorem os_count {w : Nat} (h : OS ct ad O Z n) (hO : oI Z n) (hw : w < 11) : FMet l yX5_count cX5_count 2 (some .int) 4 88 D ct 198 ad [.ref (ad 0), .int (nI w)] O (some (.int (cntD Z 0 n w))) O := by
  obtain ⟨Ms, nx, sz, rfl, he, h6, h7⟩ := h
  rw [← cn_w (s := nI sz) hw, ← cnt_eq he hO (show w < 12 by omega)]
  exact mX5_count l D ct ad Ms _ nx sz _ _ 0 0 _ w n (oI_mW (oI_eq hO he)) (by omega)
theorem os_socket0 {q : Nat} (h : OS ct ad O Z n) (hO : oI Z n) (hq : q < 12) : FMet l yX5_socket cX5_socket 3 (some .int) 1 22 D ct 198 ad [.ref (ad 0), .int (nI q), .int (nI 0)] O (some (.int (nI (brk Z q)))) O := by
  obtain ⟨Ms, nx, sz, rfl, he, h6, h7⟩ := h
  have e := mX5_socket l D ct ad Ms (fun _ => 0) nx sz (fun _ => 0) (fun _ => 0) 0 0 0 q 0 n (oI_mW (oI_eq hO he)) hq (by omega)
  rw [if_pos rfl, brq_eq he (oI_bW hO) hq] at e
  exact e
theorem os_socket1 {q : Nat} (h : OS ct ad O Z n) (hO : oI Z n) (hu : unS Z n) (hq : q < 12) : FMet l yX5_socket cX5_socket 3 (some .int) 1 22 D ct 198 ad [.ref (ad 0), .int (nI q), .int (nI 1)] O (some (.int (ox (satN Z (nI q) n)))) O := by
  obtain ⟨Ms, nx, sz, rfl, he, h6, h7⟩ := h
  have e := mX5_socket l D ct ad Ms (fun _ => 0) nx sz (fun _ => 0) (fun _ => 0) 0 0 0 q 1 n (oI_mW (oI_eq hO he)) hq (by omega)
  rw [if_neg (by omega), at_eqZ he hO hu hq] at e
  exact e
theorem os_servedShare {sv sd : Nat} (h : OS ct ad O Z n) (hO : oI Z n) (hsv : Z 6 = nI sv) (hsd : sumS Z 7 n = nI sd) (hss : sv + sd < 2147483648) : FMet l yX5_servedShare cX5_servedShare 2 (some .double) 1 22 D ct 198 ad [.ref (ad 0)] O (some (.double (shD sv sd))) O := by
  obtain ⟨Ms, nx, sz, rfl, he, h6, h7⟩ := h
  exact mX5_servedShare l D ct ad Ms _ nx sz _ _ 0 0 _ n sv sd (oI_mW (oI_eq hO he)) ((he 6 (by omega)).trans hsv) ((ss_eq he (by omega) n (Nat.le_refl n)).trans hsd) hss
theorem os_setting {w : Nat} (h : OS ct ad O Z n) (hw : w < 3) : FMet l yX5_setting cX5_setting 2 (some .int) 1 20 D ct 198 ad [.ref (ad 0), .int (nI w)] O (some (.int (Z (0 + w)))) O := by
  obtain ⟨Ms, nx, sz, rfl, he, h6, h7⟩ := h
  rw [← he (0 + w) (by omega)]
  exact mX5_setting l D ct ad Ms _ nx sz _ _ 0 0 _ w hw
theorem os_ifPlugged {k q tm w : Nat} (h : OS ct ad O Z n) (hr : rI Z n) (hk : k < n) (hq : q < 12) (h1 : 1 ≤ tm) (h48 : tm ≤ 48) (hw : w < 3) : ∃ O', FMet l yX5_ifPlugged cX5_ifPlugged 5 (some .int) 6 131 D ct 198 ad [.ref (ad 0), .int (nI k), .int (nI q), .int (nI tm), .int (nI w)] O (some (.int (wpR Z n k q tm w))) O' ∧ OS ct ad O' Z n := by
  obtain ⟨Ms, nx, sz, rfl, he, h6, h7⟩ := h
  have hO := hr.1
  have ho := hr.2.1
  have hu := hr.2.2.1
  rw [← if_eq (Ms := Ms) he hO ho hu hk hq]
  exact ⟨_, mX5_ifPlugged l D ct ad Ms _ nx sz _ _ 0 0 _ k q tm w n (oI_mW (oI_eq hO he)) (oI_bW (oI_eq hO he)) hk hq h1 h48 hw, _, nx, sz, rfl, (by split <;> first | exact he | exact (by rw [va_up_ne _ _ (by omega)]; exact he)), h6, h7⟩
theorem os_tripsIn {b : Nat} (h : OS ct ad O Z n) (hr : rI Z n) (hb : b < 4) : ∃ O', FMet l yX5_tripsIn cX5_tripsIn 3 (some .int) 4 86 D ct 198 ad [.ref (ad 0), .int (nI b)] O (some (.int (htF Z n b 98 0))) O' ∧ OS ct ad O' Z n := by
  obtain ⟨Ms, nx, sz, rfl, he, h6, h7⟩ := h
  have hO := hr.1
  have ho := hr.2.1
  have hu := hr.2.2.1
  rw [← ti_eq (M := cCp (Ms 1) (Ms 0) n) (cp_eq he) hO ho hb 98 0]
  exact ⟨_, mX5_tripsIn l D ct ad Ms _ nx sz _ _ 0 0 _ b n (oI_mW (oI_eq hO he)) (oI_bW (oI_eq hO he)) hb, _, nx, sz, rfl, (by rw [va_up_ne _ _ (by omega)]; exact he), h6, h7⟩
theorem os_bestSocket {k : Nat} (h : OS ct ad O Z n) (hr : rI Z n) (hk : k < n) : ∃ O', FMet l yX5_bestSocket cX5_bestSocket 10 (some .int) 6 131 D ct 198 ad [.ref (ad 0), .int (nI k)] O (some (.int ((bfS Z n k 12).1))) O' ∧ OS ct ad O' Z n := by
  obtain ⟨Ms, nx, sz, rfl, he, h6, h7⟩ := h
  have hO := hr.1
  have ho := hr.2.1
  have hu := hr.2.2.1
  obtain ⟨h9, hh9, hb9⟩ := hr.2.2.2
  rw [← bs_eq (Ms := Ms) he hO ho hu hb9 hh9 hk]
  exact ⟨_, mX5_bestSocket l D ct ad Ms _ nx sz _ _ 0 0 _ k n (oI_mW (oI_eq hO he)) (oI_bW (oI_eq hO he)) hk, _, nx, sz, rfl, (by rw [va_up_ne _ _ (by omega)]; exact he), h6, h7⟩
theorem os_leastBound {b : Nat} (h : OS ct ad O Z n) (hr : rI Z n) (hb : b < 4) : ∃ t, 9 ≤ t ∧ t ≤ 999 ∧ (∀ v, 10 ≤ v → v ≤ t → wTr Z n b v) ∧ (∀ v, t + 1 ≤ v → v ≤ 999 → ¬ wTr Z n b v) ∧ ∃ O', FMet l yX5_leastBound cX5_leastBound 4 (some .int) 5 110 D ct 198 ad [.ref (ad 0), .int (nI b)] O (some (.int (if t = 999 then -1 else nI (t + 1)))) O' ∧ OS ct ad O' Z n := by
  obtain ⟨Ms, nx, sz, rfl, he, h6, h7⟩ := h
  have hO := hr.1
  have ho := hr.2.1
  have hi := lb_inv (b := b) he hO ho hb 9 10 9 (Ms 1) (by omega) (Nat.le_refl 9) (by omega) (Or.inl rfl) (fun v q1 q2 => by
    have : 2 ^ (9 + 1) = 1024 := rfl
    omega)
  rw [show 2 ^ 9 = 512 from rfl] at hi
  have hi' : 9 ≤ (cLbR Ms n b).1 ∧ (cLbR Ms n b).1 ≤ 999 ∧ ((cLbR Ms n b).1 = 9 ∨ wTr Z n b (cLbR Ms n b).1) ∧ ∀ v, (cLbR Ms n b).1 + 1 ≤ v → v ≤ 999 → ¬ wTr Z n b v := hi
  have hM := mX5_leastBound l D ct ad Ms (fun _ => 0) nx sz (fun _ => 0) (fun _ => 0) 0 0 0 b n (oI_mW (oI_eq hO he)) (oI_bW (oI_eq hO he)) hb
  obtain ⟨a1, a2, a3, a4⟩ := hi'
  refine ⟨(cLbR Ms n b).1, a1, a2, fun v q1 q2 => ?_, a4, _, hM, _, nx, sz, rfl, (by rw [va_up_ne _ _ (by omega)]; exact he), h6, h7⟩
  rcases a3 with w | w
  · omega
  · unfold wTr at w ⊢
    refine Classical.byContradiction (fun w2 => ?_)
    rw [Bool.not_eq_false] at w2
    rw [lw_mono hO ho hb q1 q2 a2 w2] at w
    exact Bool.false_ne_true w.symm
theorem os_plug {k q : Nat} (h : OS ct ad O Z n) (hr : rI Z n) (hk : k < n) (hq : q < 12) (hf : ox (satN Z (nI q) n) = -1) : ∃ O', FMet l yX5_plug cX5_plug 3 (some .int) 3 83 D ct 198 ad [.ref (ad 0), .int (nI k), .int (nI q)] O (some (.int (Z (39 + 8 * k + 4)))) O' ∧ OS ct ad O' (upd Z (39 + 8 * k + 4) (nI q)) n := by
  obtain ⟨Ms, nx, sz, rfl, he, h6, h7⟩ := h
  have hO := hr.1
  have ho := hr.2.1
  have hu := hr.2.2.1
  rw [← he (39 + 8 * k + 4) (by omega)]
  exact ⟨_, mX5_plug l D ct ad Ms _ nx sz _ _ 0 0 _ k q n (oI_mW (oI_eq hO he)) (oI_bW (oI_eq hO he)) h6 h7 hk hq ((at_eqZ he hO hu hq).trans hf), _, _, _, rfl, by rw [show va_up (va_up Ms (4 + nx) (cCp (Ms (4 + nx)) (Ms 0) n)) 0 _ 0 = _ from if_pos rfl]; exact eqZ_upd he, Nat.mod_lt _ (by omega), svn_le h7⟩
theorem os_pull {k : Nat} (h : OS ct ad O Z n) (hr : rI Z n) (hk : k < n) (hs : ¬ Z (39 + 8 * k + 4) = -1) : ∃ O', FMet l yX5_pull cX5_pull 2 (some .int) 3 83 D ct 198 ad [.ref (ad 0), .int (nI k)] O (some (.int (Z (39 + 8 * k + 4)))) O' ∧ OS ct ad O' (upd Z (39 + 8 * k + 4) (-1)) n := by
  obtain ⟨Ms, nx, sz, rfl, he, h6, h7⟩ := h
  have hO := hr.1
  have ho := hr.2.1
  have hu := hr.2.2.1
  rw [← he (39 + 8 * k + 4) (by omega)]
  exact ⟨_, mX5_pull l D ct ad Ms _ nx sz _ _ 0 0 _ k n (oI_mW (oI_eq hO he)) (oI_bW (oI_eq hO he)) h6 h7 hk (by rw [he (39 + 8 * k + 4) (by omega)]; exact hs), _, _, _, rfl, by rw [show va_up (va_up Ms (4 + nx) (cCp (Ms (4 + nx)) (Ms 0) n)) 0 _ 0 = _ from if_pos rfl]; exact eqZ_upd he, Nat.mod_lt _ (by omega), svn_le h7⟩
theorem os_shed {k : Nat} (h : OS ct ad O Z n) (hr : rI Z n) (hk : k < n) : ∃ O', FMet l yX5_shed cX5_shed 3 (some .int) 3 83 D ct 198 ad [.ref (ad 0), .int (nI k)] O (some (.int (if Z (39 + 8 * k + 5) = 0 then nI 1 else nI 0))) O' ∧ OS ct ad O' (upd Z (39 + 8 * k + 5) (if Z (39 + 8 * k + 5) = 0 then nI 1 else nI 0)) n := by
  obtain ⟨Ms, nx, sz, rfl, he, h6, h7⟩ := h
  have hO := hr.1
  have ho := hr.2.1
  have hu := hr.2.2.1
  rw [← he (39 + 8 * k + 5) (by omega)]
  exact ⟨_, mX5_shed l D ct ad Ms _ nx sz _ _ 0 0 _ k n (oI_mW (oI_eq hO he)) (oI_bW (oI_eq hO he)) h6 h7 hk, _, _, _, rfl, by rw [show va_up (va_up Ms (4 + nx) (cCp (Ms (4 + nx)) (Ms 0) n)) 0 _ 0 = _ from if_pos rfl]; exact eqZ_upd he, Nat.mod_lt _ (by omega), svn_le h7⟩
theorem os_bound {b v : Nat} (h : OS ct ad O Z n) (hr : rI Z n) (hb : b < 4) (h10 : 10 ≤ v) (h999 : v ≤ 999) : ∃ O', FMet l yX5_bound cX5_bound 5 (some .int) 3 83 D ct 198 ad [.ref (ad 0), .int (nI b), .int (nI v)] O (some (.int (Z (7 + 5 * b + 0)))) O' ∧ OS ct ad O' (upd Z (7 + 5 * b + 0) (nI v)) n := by
  obtain ⟨Ms, nx, sz, rfl, he, h6, h7⟩ := h
  have hO := hr.1
  have ho := hr.2.1
  have hu := hr.2.2.1
  rw [← he (7 + 5 * b + 0) (by omega)]
  exact ⟨_, mX5_bound l D ct ad Ms _ nx sz _ _ 0 0 _ b (nI v) n (oI_mW (oI_eq hO he)) (oI_bW (oI_eq hO he)) h6 h7 hb (nI_nlt h10 (by omega)) (nI_nlt h999 (by omega)), _, _, _, rfl, by rw [show va_up (va_up Ms (4 + nx) (cCp (Ms (4 + nx)) (Ms 0) n)) 0 _ 0 = _ from if_pos rfl]; exact eqZ_upd he, Nat.mod_lt _ (by omega), svn_le h7⟩
theorem os_reset {b : Nat} (h : OS ct ad O Z n) (hr : rI Z n) (hb : b < 4) (h0 : Z (7 + 5 * b + 1) = 0) : ∃ O', FMet l yX5_reset cX5_reset 2 (some .int) 3 83 D ct 198 ad [.ref (ad 0), .int (nI b)] O (some (.int (drS (pon Z b) b n))) O' ∧ OS ct ad O' (pon Z b) n := by
  obtain ⟨Ms, nx, sz, rfl, he, h6, h7⟩ := h
  have hO := hr.1
  have ho := hr.2.1
  have hu := hr.2.2.1
  have hp := (rI_pon hr hb).1
  rw [← drs_eq (pon_eq he) (oI_zW hp) (oI_bW hp) hb n (Nat.le_refl n)]
  exact ⟨_, mX5_reset l D ct ad Ms _ nx sz _ _ 0 0 _ b n (oI_mW (oI_eq hO he)) (oI_bW (oI_eq hO he)) h6 h7 hb (by rw [he (7 + 5 * b + 1) (by omega)]; exact h0), _, _, _, rfl, by rw [show va_up (va_up Ms (4 + nx) (cCp (Ms (4 + nx)) (Ms 0) n)) 0 _ 0 = _ from if_pos rfl]; exact pon_eq he, Nat.mod_lt _ (by omega), svn_le h7⟩
theorem os_over {q : Nat} (h : OS ct ad O Z n) (hr : rI Z n) (hq : q < 9) : ∃ O', FMet l yX5_over cX5_over 2 (some .int) 3 83 D ct 198 ad [.ref (ad 0), .int (nI q)] O (some (.int (nI (brk (upd Z (27 + q) (if Z (27 + q) = 0 then nI 1 else nI 0)) q)))) O' ∧ OS ct ad O' (upd Z (27 + q) (if Z (27 + q) = 0 then nI 1 else nI 0)) n := by
  obtain ⟨Ms, nx, sz, rfl, he, h6, h7⟩ := h
  have hO := hr.1
  have ho := hr.2.1
  have hu := hr.2.2.1
  have hp := (rI_over hr (q := q) (v := if Z (27 + q) = 0 then nI 1 else nI 0) (by omega) (by split <;> first | exact Or.inl rfl | exact Or.inr rfl)).1
  rw [← he (27 + q) (by omega)] at hp ⊢
  rw [← brq_eq (eqZ_upd he) (oI_bW hp) (show q < 12 by omega)]
  exact ⟨_, mX5_over l D ct ad Ms _ nx sz _ _ 0 0 _ q n (oI_mW (oI_eq hO he)) (oI_bW (oI_eq hO he)) h6 h7 hq, _, _, _, rfl, by rw [show va_up (va_up Ms (4 + nx) (cCp (Ms (4 + nx)) (Ms 0) n)) 0 _ 0 = _ from if_pos rfl]; exact eqZ_upd he, Nat.mod_lt _ (by omega), svn_le h7⟩
theorem os_pass {tm : Nat} (h : OS ct ad O Z n) (hr : rI Z n) (h1 : 1 ≤ tm) (h48 : tm ≤ 48) (hh : Z 3 + nI tm ≤ nI 9999) : ∃ O', FMet l yX5_pass cX5_pass 3 (some .int) 5 108 D ct 198 ad [.ref (ad 0), .int (nI tm)] O (some (.int (hsT Z n tm))) O' ∧ OS ct ad O' (hsZ Z n tm) n := by
  obtain ⟨Ms, nx, sz, rfl, he, h6, h7⟩ := h
  have hO := hr.1
  have ho := hr.2.1
  have hu := hr.2.2.1
  rw [← pass_eq he hO ho]
  exact ⟨_, mX5_pass l D ct ad Ms _ nx sz _ _ 0 0 _ tm n (oI_mW (oI_eq hO he)) (oI_bW (oI_eq hO he)) h6 h7 h1 h48 (by rw [he 3 (by omega)]; exact hh), _, _, _, rfl, by rw [show va_up (va_up Ms (4 + nx) (cCp (Ms (4 + nx)) (Ms 0) n)) 0 _ 0 = _ from if_pos rfl]; exact (hs_all he hO ho tm).1, Nat.mod_lt _ (by omega), svn_le h7⟩
theorem os_stall {a0 a1 a2 a3 : Nat} (h : OS ct ad O Z n) (hr : rI Z n) (hn : n < 10) (h1 : 1 ≤ a0) (h2 : a0 ≤ 500) (h3 : a1 < 24) (h4 : a2 < 24) (h5 : 1 ≤ a3) (h9 : a3 ≤ 9) : ∃ O', FMet l yX5_stall cX5_stall 5 (some .int) 3 83 D ct 198 ad [.ref (ad 0), .int (nI a0), .int (nI a1), .int (nI a2), .int (nI a3)] O (some (.int (nI n))) O' ∧ OS ct ad O' (comeZ Z n (nI a0) (nI a1) (nI a2) (nI a3)) (n + 1) := by
  obtain ⟨Ms, nx, sz, rfl, he, h6, h7⟩ := h
  have hO := hr.1
  have ho := hr.2.1
  have hu := hr.2.2.1
  exact ⟨_, mX5_stall l D ct ad Ms _ nx sz _ _ 0 0 _ (nI a0) (nI a1) (nI a2) (nI a3) n (oI_mW (oI_eq hO he)) (oI_bW (oI_eq hO he)) h6 h7 hn (nI_nlt h1 (by omega)) (nI_nlt h2 (by omega)) (nI_nlt h5 (by omega)) (nI_nlt h9 (by omega)) (nI_pos (by omega)) (nI_ge h3 (by omega)) (nI_pos (by omega)) (nI_ge h4 (by omega)), _, _, _, rfl, by rw [show va_up (va_up Ms (4 + nx) (cCp (Ms (4 + nx)) (Ms 0) n)) 0 _ 0 = _ from if_pos rfl]; exact come_eq he, Nat.mod_lt _ (by omega), svn_le h7⟩
theorem os_set {w v : Nat} (h : OS ct ad O Z n) (hr : rI Z n) (hw : w < 3) (hlo : ¬ nI v < leV w) (hhi : ¬ moV w < nI v) : ∃ O', GMet l yX5_set cX5_set 4 (some .int) 3 83 D ct 198 ad [.ref (ad 0), .int (nI w), .int (nI v)] O (some (.int (Z (0 + w)))) O' ∧ OS ct ad O' (upd Z (0 + w) (nI v)) n := by
  obtain ⟨Ms, nx, sz, rfl, he, h6, h7⟩ := h
  have hO := hr.1
  have ho := hr.2.1
  have hu := hr.2.2.1
  rw [← he (0 + w) (by omega)]
  exact ⟨_, mX5_set l D ct ad Ms _ nx sz _ _ 0 0 _ w (nI v) n (oI_mW (oI_eq hO he)) (oI_bW (oI_eq hO he)) h6 h7 hw hlo hhi, _, _, _, rfl, by rw [show va_up (va_up Ms (4 + nx) (cCp (Ms (4 + nx)) (Ms 0) n)) 0 _ 0 = _ from if_pos rfl]; exact eqZ_upd he, Nat.mod_lt _ (by omega), svn_le h7⟩
end OSL
