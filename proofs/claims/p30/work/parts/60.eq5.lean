/-! CLASS AND REFERENCE: the sources of an hour, who is shed -/
theorem nI_j {a b : Nat} (ha : a < 2147483648) (hb : b < 2147483648) (h : nI a = nI b) : a = b := (nI_iN (v := nI a) ha rfl).symm.trans (nI_iN hb h)
def srcV (Z : Nat → Int32) (k : Nat) : Int32 := if rsn Z k = 0 then nI (brk Z (skt Z k)) else -1
/-- the class's row P, its sources and loads among it, against the reference's row Z -/
def relH (P Z : Nat → Int32) (n : Nat) : Prop := eqZ P Z n ∧ (∀ k, k < n → P (119 + k) = srcV Z k) ∧ ∀ b, b < 4 → P (129 + b) = carS Z b n
theorem eqZ_rfl {Z : Nat → Int32} {n : Nat} : eqZ Z Z n := fun _ _ => rfl
theorem eqZ_upd {M Z : Nat → Int32} {n i : Nat} {v : Int32} (h : eqZ M Z n) : eqZ (upd M i v) (upd Z i v) n := by
  intro z hz
  by_cases e : z = i
  · subst e; rw [upd_s, upd_s]
  · rw [upd_n e, upd_n e]; exact h z hz
theorem rsn0_at {Z : Nat → Int32} {k : Nat} (h : rsn Z k = 0) : ¬ Z (39 + 8 * k + 4) = -1 := by
  intro q
  unfold rsn at h
  rw [if_pos q] at h
  split at h <;> omega
theorem srcV_iff {Z : Nat → Int32} {n k b : Nat} (hw : zW Z n) (hb : bW Z n) (hk : k < n) (hb4 : b < 4) : (srcV Z k = nI b) ↔ drwB Z k b = true := by
  have h1 := drw_eq (M := Z) eqZ_rfl hw hb hk hb4
  rw [src_eq (M := Z) eqZ_rfl hw hb hk] at h1
  exact h1
theorem fs0_lo {M : Nat → Int32} {z : Nat} (hz : z < 129) : ∀ i, fs0 M i z = M z
  | 0 => rfl
  | i + 1 => by
    show upd (fs0 M i) (129 + i) (nI 0) z = _
    rw [upd_n (by omega), fs0_lo hz i]
theorem fs0_hi {M : Nat → Int32} {b : Nat} : ∀ i, b < i → fs0 M i (129 + b) = 0
  | 0, h => absurd h (Nat.not_lt_zero _)
  | i + 1, h => by
    show upd (fs0 M i) (129 + i) (nI 0) (129 + b) = _
    by_cases e : b = i
    · subst e; exact upd_s
    · rw [upd_n (by omega)]; exact fs0_hi i (by omega)
theorem fsS_rel {M Z : Nat → Int32} {n : Nat} (h : eqZ M Z n) (hw : zW Z n) (hb : bW Z n) : ∀ i, i ≤ n → eqZ (fsS (fs0 M 4) i) Z n ∧ (∀ k, k < i → fsS (fs0 M 4) i (119 + k) = srcV Z k) ∧ ∀ b, b < 4 → fsS (fs0 M 4) i (129 + b) = carS Z b i
  | 0, _ => ⟨fun z hz => (fs0_lo (by have := hw.1; omega) 4).trans (h z hz), fun k hk => absurd hk (Nat.not_lt_zero _), fun b hb4 => fs0_hi 4 hb4⟩
  | i + 1, hi => by
    obtain ⟨e1, e2, e3⟩ := fsS_rel h hw hb i (by omega)
    have h10 := hw.1
    have hF : fsS (fs0 M 4) (i + 1) = fsP (fsS (fs0 M 4) i) i := rfl
    rw [hF]
    clear hF
    generalize fsS (fs0 M 4) i = P at e1 e2 e3 ⊢
    have hS : cSrc P i = srcV Z i := src_eq e1 hw hb (by omega)
    have hd : ∀ b, b < 4 → (cSrc P i = nI b ↔ drwB Z i b = true) := fun b hb4 => drw_eq e1 hw hb (by omega) hb4
    unfold fsP
    by_cases c : cSrc P i = -1
    · rw [if_pos c]
      refine ⟨fun z hz => by rw [upd_n (by omega)]; exact e1 z hz, fun k hk => ?_, fun b hb4 => ?_⟩
      · by_cases ek : k = i
        · subst ek; rw [upd_s]; exact hS
        · rw [upd_n (by omega)]; exact e2 k (by omega)
      · rw [upd_n (by omega), e3 b hb4]
        have hno : ¬ drwB Z i b = true := fun q => nI_nm1 (v := b) (by omega) (((hd b hb4).mpr q).symm.trans c)
        show carS Z b i = carS Z b i + (if drwB Z i b = true then Z (39 + 8 * i + 0) else 0)
        rw [if_neg hno, Int32.add_zero]
    · rw [if_neg c]
      have q := cSrc_n c
      generalize cB P (P (39 + 8 * i + 4)) = b0 at q ⊢
      have hq2 := q.2
      refine ⟨fun z hz => by rw [upd_n (by omega), upd_n (by omega)]; exact e1 z hz, fun k hk => ?_, fun b hb4 => ?_⟩
      · by_cases ek : k = i
        · subst ek; rw [upd_n (by omega), upd_s]; exact hS
        · rw [upd_n (by omega), upd_n (by omega)]; exact e2 k (by omega)
      · show _ = carS Z b i + (if drwB Z i b = true then Z (39 + 8 * i + 0) else 0)
        by_cases eb : b = b0
        · subst eb
          rw [upd_s, upd_n (by omega), upd_n (by omega), e3 b hb4, e1 _ (by omega), if_pos ((hd b hb4).mp q.1)]
        · have hno : ¬ drwB Z i b = true := fun w => eb (nI_j (by omega) (by omega) (((hd b hb4).mpr w).symm.trans q.1))
          rw [upd_n (by omega), upd_n (by omega), e3 b hb4, if_neg hno, Int32.add_zero]
theorem cFS_rel {M Z : Nat → Int32} {n : Nat} (h : eqZ M Z n) (hw : zW Z n) (hb : bW Z n) : relH (cFS M n) Z n := fsS_rel h hw hb n (Nat.le_refl n)
theorem srcV_congr {Z Y : Nat → Int32} {k : Nat} (h3 : Y 3 = Z 3) (hs : ∀ w, w < 6 → Y (39 + 8 * k + w) = Z (39 + 8 * k + w)) (hk : ∀ q, q < 12 → Y (27 + q) = Z (27 + q)) (hb : ∀ b, b < 4 → Y (7 + 5 * b + 1) = Z (7 + 5 * b + 1)) (hq : ¬ Z (39 + 8 * k + 4) = -1 → skt Z k < 12) : srcV Y k = srcV Z k := by
  unfold srcV
  rw [rsn_congr h3 hs hk hb hq]
  by_cases c : rsn Z k = 0
  · rw [if_pos c, if_pos c, skt_congr (hs 4 (by omega)), brk_congr (hk _ (hq (rsn0_at c)))]
  · rw [if_neg c, if_neg c]
theorem carS_congr {Z Y : Nat → Int32} {b : Nat} : ∀ i, (∀ j, j < i → drwB Y j b = drwB Z j b) → (∀ j, j < i → Y (39 + 8 * j + 0) = Z (39 + 8 * j + 0)) → carS Y b i = carS Z b i
  | 0, _, _ => rfl
  | i + 1, h1, h2 => by
    unfold carS
    rw [carS_congr i (fun j hj => h1 j (by omega)) (fun j hj => h2 j (by omega)), h1 i (by omega), h2 i (by omega)]
theorem carS_sub {Z Y : Nat → Int32} {b k : Nat} : ∀ i, k < i → (∀ j, j < i → j ≠ k → drwB Y j b = drwB Z j b) → drwB Z k b = true → drwB Y k b = false → (∀ j, j < i → Y (39 + 8 * j + 0) = Z (39 + 8 * j + 0)) → carS Y b i = carS Z b i - Z (39 + 8 * k + 0)
  | 0, hk, _, _, _, _ => absurd hk (Nat.not_lt_zero _)
  | i + 1, hk, h1, h2, h3, h4 => by
    unfold carS
    by_cases e : k = i
    · subst e
      rw [carS_congr k (fun j hj => h1 j (by omega) (by omega)) (fun j hj => h4 j (by omega)), if_neg (by rw [h3]; exact Bool.false_ne_true), if_pos h2, Int32.add_sub_cancel, Int32.add_zero]
    · rw [carS_sub i (by omega) (fun j hj hne => h1 j (by omega) hne) h2 h3 (fun j hj => h4 j (by omega)), h1 i (by omega) (Ne.symm e), h4 i (by omega)]
      rw [Int32.sub_eq_add_neg, Int32.sub_eq_add_neg, Int32.add_assoc, Int32.add_assoc, Int32.add_comm (-Z (39 + 8 * k + 0))]
theorem cS3_at {M : Nat → Int32} {b k j : Nat} (h5 : j ≠ 5) (h : j ≠ 39 + 8 * k + 5) (h2 : j ≠ 119 + k) (h3 : j ≠ 129 + b) : cSh3 M b k j = M j := by
  unfold cSh3 cSh2 cSh1
  rw [upd_n h5, upd_n h3, upd_n h2, upd_n h]
theorem drwB_one {Z : Nat → Int32} {k b c : Nat} (h : drwB Z k b = true) (hc : c ≠ b) : drwB Z k c = false := by
  unfold drwB onB at h ⊢
  by_cases e : Z (39 + 8 * k + 4) = -1
  · rw [if_pos e]; rfl
  · rw [if_neg e, Bool.and_eq_true, decide_eq_true_eq] at h
    rw [if_neg e, decide_eq_false (fun q => hc (q.symm.trans h.1))]; rfl
theorem sh_rel {P Z : Nat → Int32} {n b : Nat} (h : relH P Z n) (hw : zW Z n) (hb4 : b < 4) (hf : ftn Z b n ≠ 10) : relH (cSh3 P b (ftn Z b n)) (shS Z b n) n := by
  obtain ⟨e1, e2, e3⟩ := h
  have h10 := hw.1
  have hl : ftn Z b n < n := by rcases ftn_lt Z b n with q | q; exact absurd q hf; exact q
  have hdr := ftn_drw Z b n hf
  have hat : ∀ j, j ≠ 5 → j ≠ 39 + 8 * ftn Z b n + 5 → shS Z b n j = Z j := fun j h5 hj => shS_at h5 hj
  have hdj : ∀ c j, j < n → j ≠ ftn Z b n → drwB (shS Z b n) j c = drwB Z j c := fun c j hj hne => shS_dr hw hj hne c
  have hd0 : ∀ c, drwB (shS Z b n) (ftn Z b n) c = false := fun c => shS_dr0 c
  have hs5 : shS Z b n 5 = Z 5 + nI 1 := by unfold shS; rw [upd_s, upd_n (by omega)]
  have hsk : shS Z b n (39 + 8 * ftn Z b n + 5) = nI 1 := by unfold shS; rw [upd_n (by omega), upd_s]
  generalize ftn Z b n = k at hl hdr hat hdj hd0 hsk ⊢
  generalize shS Z b n = Y at hat hdj hd0 hs5 hsk ⊢
  refine ⟨fun z hz => ?_, fun j hj => ?_, fun c hc => ?_⟩
  · by_cases c5 : z = 5
    · subst c5
      rw [hs5]
      unfold cSh3 cSh2 cSh1
      rw [upd_s, upd_n (by omega), upd_n (by omega), upd_n (by omega), e1 5 (by omega)]
    · by_cases ck : z = 39 + 8 * k + 5
      · subst ck
        rw [hsk]
        unfold cSh3 cSh2 cSh1
        rw [upd_n (by omega), upd_n (by omega), upd_n (by omega), upd_s]
      · rw [cS3_at c5 ck (by omega) (by omega), hat z c5 ck]
        exact e1 z hz
  · by_cases ej : j = k
    · subst ej
      have h1 : cSh3 P b j (119 + j) = -1 := by
        unfold cSh3 cSh2 cSh1
        rw [upd_n (by omega), upd_n (by omega), upd_s]
      rw [h1]
      exact (if_neg (rsn_shed hsk)).symm
    · rw [cS3_at (by omega) (by omega) (by omega) (by omega), e2 j hj]
      exact (srcV_congr (hat _ (by omega) (by omega)) (fun w hw6 => hat _ (by omega) (by omega)) (fun q hq => hat _ (by omega) (by omega)) (fun b hb => hat _ (by omega) (by omega)) (skt_lt hw hj)).symm
  · have hld : ∀ j, j < n → Y (39 + 8 * j + 0) = Z (39 + 8 * j + 0) := fun j hj => hat _ (by omega) (by omega)
    by_cases eb : c = b
    · subst eb
      rw [carS_sub n hl (fun j hj hne => hdj c j hj hne) hdr (hd0 c) hld]
      unfold cSh3 cSh2 cSh1
      rw [upd_n (by omega), upd_s, upd_n (by omega), upd_n (by omega), upd_n (by omega), upd_n (by omega), e3 c hc, e1 _ (by omega)]
    · rw [cS3_at (by omega) (by omega) (by omega) (by omega), e3 c hc]
      refine (carS_congr n (fun j hj => ?_) hld).symm
      by_cases ej : j = k
      · subst ej; rw [hd0 c, drwB_one hdr eb]
      · exact hdj c j hj ej
theorem cF_ftn {P Z : Nat → Int32} {n b : Nat} (h : relH P Z n) (hw : zW Z n) (hb : bW Z n) (hr : ∀ k, k < n → nI 0 < Z (39 + 8 * k + 3)) (hb4 : b < 4) : ∀ i, i ≤ n → (ftn Z b i = 10 ∧ cF P (nI b) i = (-1, nI 0, nI 0)) ∨ (ftn Z b i < i ∧ cF P (nI b) i = (nI (ftn Z b i), Z (39 + 8 * ftn Z b i + 3), Z (39 + 8 * ftn Z b i + 0)))
  | 0, _ => Or.inl ⟨rfl, rfl⟩
  | i + 1, hi => by
    obtain ⟨e1, e2, e3⟩ := h
    have h10 := hw.1
    have hd : P (119 + i) = nI b ↔ drwB Z i b = true := by rw [e2 i (by omega)]; exact srcV_iff hw hb (by omega) hb4
    have hF : cF P (nI b) (i + 1) = if P (119 + i) = nI b ∧ ((cF P (nI b) i).2.1 < P (39 + 8 * i + 3) ∨ (P (39 + 8 * i + 3) = (cF P (nI b) i).2.1 ∧ (cF P (nI b) i).2.2 < P (39 + 8 * i + 0))) then (nI i, P (39 + 8 * i + 3), P (39 + 8 * i + 0)) else cF P (nI b) i := rfl
    rw [hF, e1 _ (show 39 + 8 * i + 3 < 39 + 8 * n by omega), e1 _ (show 39 + 8 * i + 0 < 39 + 8 * n by omega)]
    rcases cF_ftn ⟨e1, e2, e3⟩ hw hb hr hb4 i (by omega) with ⟨h1, h2⟩ | ⟨h1, h2⟩
    · rw [h2]
      by_cases c : drwB Z i b = true
      · right
        rw [ftn_first c h1, if_pos ⟨hd.mpr c, Or.inl (hr i (by omega))⟩]
        exact ⟨by omega, rfl⟩
      · left
        rw [ftn_no (by simpa using c), if_neg (fun q => c (hd.mp q.1))]
        exact ⟨h1, rfl⟩
    · rw [h2]
      right
      by_cases c : drwB Z i b = true
      · by_cases c2 : gofB Z i (ftn Z b i) = true
        · rw [ftn_better c c2, if_pos ⟨hd.mpr c, by unfold gofB at c2; simpa [Bool.or_eq_true, Bool.and_eq_true, decide_eq_true_eq] using c2⟩]
          exact ⟨by omega, rfl⟩
        · rw [ftn_worse (by omega) (by simpa using c2), if_neg (fun q => c2 (by unfold gofB; simpa [Bool.or_eq_true, Bool.and_eq_true, decide_eq_true_eq] using q.2))]
          exact ⟨by omega, rfl⟩
      · rw [ftn_no (by simpa using c), if_neg (fun q => c (hd.mp q.1))]
        exact ⟨by omega, rfl⟩
theorem cTm_shC {P Z : Nat → Int32} {n b : Nat} (h : relH P Z n) (hb : bW Z n) (hb4 : b < 4) (h1 : Z 1 = nI 1) : cTm P b = shC Z b n := by
  unfold cTm shC
  rw [h.1 _ (show 7 + 5 * b + 1 < 39 + 8 * n by omega), h.1 _ (show 7 + 5 * b + 0 < 39 + 8 * n by omega), h.2.2 b hb4, h1, decide_eq_true (rfl : nI 1 = nI 1)]
  rcases hb.2.1 b hb4 with c | c
  · rw [c, decide_eq_true (rfl : (0 : Int32) = 0), decide_eq_false (show ¬ (0 : Int32) = nI 1 by decide)]; rfl
  · rw [c, decide_eq_false (show ¬ (1 : Int32) = 0 by decide), decide_eq_true (show (1 : Int32) = nI 1 from rfl)]; rfl
theorem shS_bW {Z : Nat → Int32} {n b : Nat} (h : bW Z n) (hn : n ≤ 10) : bW (shS Z b n) n := by
  refine ⟨fun k hk => ?_, fun c hc => by rw [shS_at (by omega) (by omega)]; exact h.2.1 c hc, fun q hq => by rw [shS_at (by omega) (by omega)]; exact h.2.2 q hq⟩
  by_cases e : k = ftn Z b n
  · right; unfold shS; rw [upd_n (by omega), e, upd_s]; rfl
  · rw [shS_at (by omega) (by omega)]; exact h.1 k hk
theorem shL_rel {n b : Nat} (hb4 : b < 4) : ∀ f f2 {P Z : Nat → Int32}, relH P Z n → zW Z n → bW Z n → (∀ k, k < n → nI 0 < Z (39 + 8 * k + 3)) → Z 1 = nI 1 → drN Z b n ≤ f → drN Z b n ≤ f2 → relH (cShL n b f P) (shL b n f2 Z) n
  | f, f2, P, Z, h, hw, hb, hr, h1, hd1, hd2 => by
    have h10 := hw.1
    have hc := cTm_shC h hb hb4 h1
    by_cases c : shC Z b n = true
    · have hcar : Z (7 + 5 * b + 0) < carS Z b n := by
        unfold shC at c
        rw [Bool.and_eq_true, decide_eq_true_eq] at c
        exact c.2
      have hf := shC_ftn hw hb4 hcar
      have hs := drN_sh hw hf
      have hl : ftn Z b n < n := by rcases ftn_lt Z b n with q | q; exact absurd q hf; exact q
      have hF : (cF P (nI b) n).1 = nI (ftn Z b n) := by
        rcases cF_ftn h hw hb hr hb4 n (Nat.le_refl n) with ⟨q, _⟩ | ⟨_, q⟩
        · exact absurd q hf
        · rw [q]
      match f, f2, hd1, hd2 with
      | 0, _, hd1, _ => omega
      | _ + 1, 0, _, hd2 => omega
      | f + 1, f2 + 1, hd1, hd2 =>
        rw [cShL_go (by omega) ⟨hc.trans c, by rw [hF]; exact nI_nm1 (by omega)⟩, hF, nI_iN (v := nI (ftn Z b n)) (a := ftn Z b n) (by omega) rfl]
        have e : shL b n (f2 + 1) Z = shL b n f2 (shS Z b n) := by
          show (if shC Z b n = true then _ else _) = _
          rw [if_pos c]
        rw [e]
        refine shL_rel hb4 f f2 (sh_rel h hw hb4 hf) (shS_zW hw) (shS_bW hb h10) (fun k hk => ?_) ?_ (by omega) (by omega)
        · rw [shS_at (by omega) (by omega)]; exact hr k hk
        · rw [shS_at (by omega) (by omega)]; exact h1
    · rw [cShL_no (fun q => c (hc.symm.trans q.1))]
      have e : shL b n f2 Z = Z := by
        cases f2
        · rfl
        · show (if shC Z b n = true then _ else _) = _
          rw [if_neg c]
      rw [e]; exact h
termination_by f => f
theorem shL_at {b n j : Nat} (h5 : j ≠ 5) (hn : n ≤ 10) : ∀ f {Z : Nat → Int32}, (∀ k, k < n → j ≠ 39 + 8 * k + 5) → zW Z n → b < 4 → shL b n f Z j = Z j
  | 0, _, _, _, _ => rfl
  | f + 1, Z, hj, hw, hb4 => by
    show (if shC Z b n = true then shL b n f (shS Z b n) else Z) j = _
    by_cases c : shC Z b n = true
    · have hcar : Z (7 + 5 * b + 0) < carS Z b n := by
        unfold shC at c
        rw [Bool.and_eq_true, decide_eq_true_eq] at c
        exact c.2
      have hf := shC_ftn hw hb4 hcar
      have hl : ftn Z b n < n := by rcases ftn_lt Z b n with q | q; exact absurd q hf; exact q
      rw [if_pos c, shL_at h5 hn f hj (shS_zW hw) hb4, shS_at h5 (hj _ hl)]
    · rw [if_neg c]
theorem shL_bW {b n : Nat} (hn : n ≤ 10) : ∀ f {Z : Nat → Int32}, bW Z n → bW (shL b n f Z) n
  | 0, _, h => h
  | f + 1, Z, h => by
    show bW (if shC Z b n = true then shL b n f (shS Z b n) else Z) n
    by_cases c : shC Z b n = true
    · rw [if_pos c]; exact shL_bW hn f (shS_bW h hn)
    · rw [if_neg c]; exact h
theorem shL_off {b n f : Nat} {Z : Nat → Int32} (h : ¬ Z 1 = nI 1) : shL b n f Z = Z := by
  cases f
  · rfl
  · show (if shC Z b n = true then _ else _) = _
    rw [if_neg]
    unfold shC
    rw [decide_eq_false h]
    exact Bool.false_ne_true
theorem shdS_at {Z : Nat → Int32} {n j : Nat} (hw : zW Z n) (h5 : j ≠ 5) (hj : ∀ k, k < n → j ≠ 39 + 8 * k + 5) : ∀ i, i ≤ 4 → shdS Z n i j = Z j
  | 0, _ => rfl
  | i + 1, hi => by
    show shL i n 10 (shdS Z n i) j = _
    rw [shL_at h5 hw.1 10 hj (shdS_zW hw i) (by omega), shdS_at hw h5 hj i (by omega)]
theorem shdS_bW {Z : Nat → Int32} {n : Nat} (hn : n ≤ 10) (h : bW Z n) : ∀ i, bW (shdS Z n i) n
  | 0 => h
  | i + 1 => shL_bW hn 10 (shdS_bW hn h i)
theorem shdS_off {Z : Nat → Int32} {n : Nat} (h : ¬ Z 1 = nI 1) : ∀ i, shdS Z n i = Z
  | 0 => rfl
  | i + 1 => by
    show shL i n 10 (shdS Z n i) = _
    rw [shdS_off h i, shL_off h]
theorem cShA_rel {P Z : Nat → Int32} {n : Nat} (h : relH P Z n) (hw : zW Z n) (hb : bW Z n) (hr : ∀ k, k < n → nI 0 < Z (39 + 8 * k + 3)) (h1 : Z 1 = nI 1) : ∀ i, i ≤ 4 → relH (cShA P n i) (shdS Z n i) n
  | 0, _ => h
  | i + 1, hi => by
    have h10 := hw.1
    have hd := drN_le (shdS Z n i) i n
    refine shL_rel (by omega) n 10 (cShA_rel h hw hb hr h1 i (by omega)) (shdS_zW hw i) (shdS_bW h10 hb i) (fun k hk => ?_) ?_ hd (by omega)
    · rw [shdS_at hw (by omega) (fun _ _ => by omega) i (by omega)]; exact hr k hk
    · rw [shdS_at hw (by omega) (fun _ _ => by omega) i (by omega)]; exact h1
theorem ch1_rel {M Z : Nat → Int32} {n : Nat} (h : eqZ M Z n) (hw : zW Z n) (hb : bW Z n) (hr : ∀ k, k < n → nI 0 < Z (39 + 8 * k + 3)) : relH (ch1 M n) (shdS Z n 4) n := by
  have hF := cFS_rel h hw hb
  unfold ch1
  rw [hF.1 _ (show 0 + 1 < 39 + 8 * n by omega)]
  by_cases c : Z (0 + 1) = nI 1
  · rw [if_pos c]; exact cShA_rel hF hw hb hr c 4 (Nat.le_refl 4)
  · rw [if_neg c, shdS_off c 4]; exact hF

