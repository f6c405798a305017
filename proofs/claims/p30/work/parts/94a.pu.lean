/-! THE LAW'S INVARIANT, pure: rows behind the last stall, sums, the mask -/
theorem shL_out {b n z : Nat} (hb : b < 4) (hz : 39 + 8 * n ≤ z) : ∀ f {Z : Nat → Int32}, zW Z n → shL b n f Z z = Z z
  | 0, _, _ => rfl
  | f + 1, Z, h => by
    unfold shL
    by_cases c : shC Z b n = true
    · rw [if_pos c]
      have hF : ftn Z b n ≠ 10 := shC_ftn h hb (by unfold shC at c; rw [Bool.and_eq_true, decide_eq_true_eq] at c; exact c.2)
      have hl : ftn Z b n < n := by rcases ftn_lt Z b n with q | q; exact absurd q hF; exact q
      rw [shL_out hb hz f (shS_zW h)]
      exact shS_at (by omega) (by omega)
    · rw [if_neg c]
theorem shdS_out {n z : Nat} (hz : 39 + 8 * n ≤ z) {Z : Nat → Int32} (h : zW Z n) : ∀ i, i ≤ 4 → shdS Z n i z = Z z
  | 0, _ => rfl
  | i + 1, hi => (shL_out (by omega) hz 10 (shdS_zW h i)).trans (shdS_out hz h i (by omega))
theorem metS_out {n z : Nat} (hz : 39 + 8 * n ≤ z) {W : Nat → Int32} : ∀ i, i ≤ n → metS W i z = W z
  | 0, _ => rfl
  | i + 1, hi => by
    show meterZ (metS W i) i z = W z
    unfold meterZ mt2 mt1
    rw [upd_n (by omega), upd_n (by omega), upd_n (by omega), metS_out hz i (by omega)]
theorem hs_out {n z : Nat} (hz : 39 + 8 * n ≤ z) {Z : Nat → Int32} (h : zW Z n) : ∀ i, hsZ Z n i z = Z z
  | 0 => rfl
  | i + 1 => by
    have hw := hsZ_zW h i
    show hrZ (hsZ Z n i) n z = Z z
    unfold hrZ
    rw [upd_n (by omega), trip_at (fun c hc => ⟨by omega, by omega⟩) 4 (Nat.le_refl 4)]
    show metS (warmS (shdS (hsZ Z n i) n 4) n 4) n z = Z z
    rw [metS_out hz n (Nat.le_refl n), warm_at (fun c hc => ⟨by omega, by omega⟩) 4 (Nat.le_refl 4), shdS_out hz hw 4 (Nat.le_refl 4), hs_out hz h i]
/-- what is carried in all -/
def carA (Z : Nat → Int32) : Nat → Int32
  | 0 => 0
  | i + 1 => carA Z i + (if rsn Z i = 0 then Z (39 + 8 * i + 0) else nI 0)
theorem a4 (a b c d x : Int32) : (a + x) + b + c + d = (a + b + c + d) + x := by
  rw [Int32.add_assoc a x b, Int32.add_comm x b, ← Int32.add_assoc, Int32.add_assoc (a + b) x c, Int32.add_comm x c, ← Int32.add_assoc, Int32.add_assoc (a + b + c) x d, Int32.add_comm x d, ← Int32.add_assoc]
theorem car_b {Z : Nat → Int32} {n : Nat} (hw : zW Z n) : ∀ i, i ≤ n → carS Z 0 i + carS Z 1 i + carS Z 2 i + carS Z 3 i = carA Z i
  | 0, _ => by rfl
  | i + 1, hi => by
    have ih := car_b hw i (by omega)
    show (carS Z 0 i + _) + (carS Z 1 i + _) + (carS Z 2 i + _) + (carS Z 3 i + _) = carA Z i + _
    rw [← ih]
    by_cases r0 : rsn Z i = 0
    · have h1 : ¬ Z (39 + 8 * i + 4) = -1 := rsn0_at r0
      have hb := brk_lt (Z := Z) (skt_lt hw (show i < n by omega) h1)
      have hd : ∀ c, drwB Z i c = decide (brk Z (skt Z i) = c) := fun c => by
        unfold drwB onB; rw [if_neg h1, decide_eq_true r0, Bool.and_true]
      rw [if_pos r0]
      generalize brk Z (skt Z i) = bb at hb hd
      simp only [hd]
      generalize Z (39 + 8 * i + 0) = x
      generalize carS Z 0 i = a
      generalize carS Z 1 i = b
      generalize carS Z 2 i = c
      generalize carS Z 3 i = d
      rcases (show bb = 0 ∨ bb = 1 ∨ bb = 2 ∨ bb = 3 by omega) with rfl | rfl | rfl | rfl
      · show (a + x) + (b + 0) + (c + 0) + (d + 0) = _
        rw [Int32.add_zero, Int32.add_zero, Int32.add_zero, a4]
      · show (a + 0) + (b + x) + (c + 0) + (d + 0) = _
        rw [Int32.add_zero, Int32.add_zero, Int32.add_zero, ← Int32.add_assoc a b x, Int32.add_assoc (a + b) x c, Int32.add_comm x c, ← Int32.add_assoc, Int32.add_assoc (a + b + c) x d, Int32.add_comm x d, ← Int32.add_assoc]
      · show (a + 0) + (b + 0) + (c + x) + (d + 0) = _
        rw [Int32.add_zero, Int32.add_zero, Int32.add_zero, ← Int32.add_assoc (a + b) c x, Int32.add_assoc (a + b + c) x d, Int32.add_comm x d, ← Int32.add_assoc]
      · show (a + 0) + (b + 0) + (c + 0) + (d + x) = _
        rw [Int32.add_zero, Int32.add_zero, Int32.add_zero, ← Int32.add_assoc]
    · have hd : ∀ c, drwB Z i c = false := fun c => by unfold drwB; rw [decide_eq_false r0, Bool.and_false]
      rw [if_neg r0]
      simp only [hd, Bool.false_eq_true, if_false, nI_0, Int32.add_zero]
theorem carA_congr {X Y : Nat → Int32} : ∀ i, (∀ k, k < i → rsn X k = rsn Y k ∧ X (39 + 8 * k + 0) = Y (39 + 8 * k + 0)) → carA X i = carA Y i
  | 0, _ => rfl
  | i + 1, h => by
    unfold carA
    rw [carA_congr i (fun k hk => h k (by omega)), (h i (by omega)).1, (h i (by omega)).2]
theorem met_sum6 {W : Nat → Int32} {n : Nat} (hw : zW W n) : ∀ i, i ≤ n → ∀ m, m ≤ n → i ≤ m → sumS (metS W i) 6 m = sumS W 6 m + carA W i
  | 0, _, m, _, _ => by show sumS W 6 m = _; rw [show carA W 0 = 0 from rfl, Int32.add_zero]
  | i + 1, hi, m, hm, him => by
    have ih := met_sum6 hw i (by omega) m hm (by omega)
    have hr : rsn (metS W i) i = rsn W i := (dr_same (b := 0) hw (show i < n by omega) (fun z _ h6 h7 _ => met_at h6 h7 i)).2
    have hl : metS W i (39 + 8 * i + 0) = W (39 + 8 * i + 0) := met_at (by omega) (fun k => ⟨by omega, by omega⟩) i
    have e : ∀ j, (j ≤ i → sumS (metS W (i + 1)) 6 j = sumS (metS W i) 6 j) ∧ (i < j → sumS (metS W (i + 1)) 6 j = sumS (metS W i) 6 j + (if rsn W i = 0 then W (39 + 8 * i + 0) else nI 0)) := by
      intro j
      induction j with
      | zero => exact ⟨fun _ => rfl, fun h => by omega⟩
      | succ j ihj =>
        have t : ∀ k, k ≠ i → metS W (i + 1) (39 + 8 * k + 6) = metS W i (39 + 8 * k + 6) := fun k hk => by
          show meterZ (metS W i) i (39 + 8 * k + 6) = _
          unfold meterZ mt2 mt1
          rw [upd_n (by omega), upd_n (by omega), upd_n (by omega)]
        have t2 : metS W (i + 1) (39 + 8 * i + 6) = metS W i (39 + 8 * i + 6) + (if rsn W i = 0 then W (39 + 8 * i + 0) else nI 0) := by
          show meterZ (metS W i) i (39 + 8 * i + 6) = _
          unfold meterZ mt2 mt1
          rw [upd_n (by omega), upd_n (by omega), upd_s, hr, hl]
        refine ⟨fun h => ?_, fun h => ?_⟩
        · show sumS (metS W (i + 1)) 6 j + metS W (i + 1) (39 + 8 * j + 6) = sumS (metS W i) 6 j + metS W i (39 + 8 * j + 6)
          rw [ihj.1 (by omega), t j (by omega)]
        · show sumS (metS W (i + 1)) 6 j + metS W (i + 1) (39 + 8 * j + 6) = sumS (metS W i) 6 j + metS W i (39 + 8 * j + 6) + _
          by_cases q : j = i
          · subst q; rw [ihj.1 (Nat.le_refl j), t2, ← Int32.add_assoc]
          · rw [ihj.2 (by omega), t j q, Int32.add_assoc, Int32.add_comm _ (metS W i (39 + 8 * j + 6)), ← Int32.add_assoc]
    rw [(e m).2 (by omega), ih, Int32.add_assoc]
    rfl
theorem sumB4 (Z : Nat → Int32) (w : Nat) : sumB Z w 4 = Z (7 + 5 * 0 + w) + Z (7 + 5 * 1 + w) + Z (7 + 5 * 2 + w) + Z (7 + 5 * 3 + w) := by
  show 0 + _ + _ + _ + _ = _
  rw [Int32.zero_add]
theorem add44 (a b c d w x y z : Int32) : (a + w) + (b + x) + (c + y) + (d + z) = (a + b + c + d) + (w + x + y + z) := by
  have h : ∀ p q u v : Int32, (p + q) + (u + v) = (p + u) + (q + v) := fun p q u v => by
    rw [Int32.add_assoc, Int32.add_assoc]; congr 1; rw [← Int32.add_assoc, Int32.add_comm q u, Int32.add_assoc]
  rw [h a w b x, h (a + b) (w + x) c y, h (a + b + c) (w + x + y) d z]
/-- the meters are what went through -/
theorem hr_mt {Z : Nat → Int32} {n : Nat} (hw : zW Z n) (h : sumS Z 6 n = sumB Z 4 4) : sumS (hrZ Z n) 6 n = sumB (hrZ Z n) 4 4 := by
  have hS : zW (shdS Z n 4) n := shdS_zW hw 4
  have hW : zW (warmS (shdS Z n 4) n 4) n := warmS_zW hS 4 (Nat.le_refl 4)
  have e1 : sumS (hrZ Z n) 6 n = sumS (metS (warmS (shdS Z n 4) n 4) n) 6 n := sumS_congr (by omega) n (fun k hk => by
    unfold hrZ
    rw [upd_n (by omega), trip_at (fun c hc => ⟨by omega, by omega⟩) 4 (Nat.le_refl 4)]
    rfl)
  have e2 : sumS (warmS (shdS Z n 4) n 4) 6 n = sumS Z 6 n := sumS_congr (by omega) n (fun k hk => by
    rw [warm_at (fun c hc => ⟨by omega, by omega⟩) 4 (Nat.le_refl 4), shdS_at hw (by omega) (fun j hj => by omega) 4 (Nat.le_refl 4)])
  have e3 : ∀ c, c < 4 → hrZ Z n (7 + 5 * c + 4) = Z (7 + 5 * c + 4) + carS (shdS Z n 4) c n := fun c hc => by
    unfold hrZ
    rw [upd_n (by omega), trip_at (fun d hd => ⟨by omega, by omega⟩) 4 (Nat.le_refl 4)]
    show metS (warmS (shdS Z n 4) n 4) n (7 + 5 * c + 4) = _
    rw [met_at (by omega) (fun k => ⟨by omega, by omega⟩) n, warm_th hS hc 4 (Nat.le_refl 4), if_pos hc, shdS_at hw (by omega) (fun j hj => by omega) 4 (Nat.le_refl 4)]
  have e4 : carA (warmS (shdS Z n 4) n 4) n = carA (shdS Z n 4) n := carA_congr n (fun k hk => ⟨(dr_same (b := 0) hS hk (fun z _ _ _ h4 => warm_at h4 4 (Nat.le_refl 4))).2, warm_at (fun c hc => ⟨by omega, by omega⟩) 4 (Nat.le_refl 4)⟩)
  rw [e1, met_sum6 hW n (Nat.le_refl n) n (Nat.le_refl n) (Nat.le_refl n), e2, e4, h, ← car_b hS n (Nat.le_refl n), sumB4, sumB4, e3 0 (by omega), e3 1 (by omega), e3 2 (by omega), e3 3 (by omega), add44]
theorem hs_mt {Z : Nat → Int32} {n : Nat} (hw : zW Z n) (h : sumS Z 6 n = sumB Z 4 4) : ∀ i, sumS (hsZ Z n i) 6 n = sumB (hsZ Z n i) 4 4
  | 0 => h
  | i + 1 => hr_mt (hsZ_zW hw i) (hs_mt hw h i)
/-- the mask's bits -/
def bt9 (x : Int32) (i : Nat) : Bool := x.toBitVec.getLsbD i
theorem s_l9 : ∀ n, n < 32 → ((nI n &&& 31).toBitVec.smod 32).toNat = n := by decide +kernel
theorem sh_bt {x : Int32} {q : Nat} (hq : q < 12) : ((x >>> (nI q &&& 31)) &&& nI 1 = nI 1) ↔ bt9 x q = true := by
  have e : ((x >>> (nI q &&& 31)) &&& nI 1).toBitVec = (x.toBitVec.sshiftRight q) &&& 1#32 := by
    rw [Int32.toBitVec_and, Int32.toBitVec_shiftRight]
    show (x.toBitVec.sshiftRight ((nI q &&& 31).toBitVec.smod 32).toNat) &&& _ = _
    rw [s_l9 q (by omega)]
    rfl
  have b0 : ((x >>> (nI q &&& 31)) &&& nI 1).toBitVec.getLsbD 0 = bt9 x q := by
    rw [e, BitVec.getLsbD_and, BitVec.getLsbD_sshiftRight]
    unfold bt9
    simp [show q < 32 by omega]
  have bi : ∀ i, 0 < i → ((x >>> (nI q &&& 31)) &&& nI 1).toBitVec.getLsbD i = false := fun i hi => by
    rw [e, BitVec.getLsbD_and]
    have : (1#32).getLsbD i = false := by
      rw [BitVec.getLsbD_one]; simp; omega
    rw [this, Bool.and_false]
  refine ⟨fun h => ?_, fun h => ?_⟩
  · rw [← b0, h]; decide
  · apply Int32.toBitVec_inj.mp
    apply BitVec.eq_of_getLsbD_eq
    intro i hi
    by_cases c : i = 0
    · subst c; rw [b0, h]; decide
    · rw [bi i (by omega)]
      show false = (BitVec.ofNat 32 1).getLsbD i
      have : (1#32).getLsbD i = false := by rw [BitVec.getLsbD_one]; simp; omega
      exact this.symm
theorem bt_flip {x : Int32} {q j : Nat} (hq : q < 12) (hj : j < 12) : bt9 (x ^^^ (nI 1 <<< (nI q &&& 31))) j = (bt9 x j ^^ decide (j = q)) := by
  unfold bt9
  rw [Int32.toBitVec_xor, BitVec.getLsbD_xor, Int32.toBitVec_shiftLeft]
  show _ = _
  have e : ((nI 1).toBitVec <<< ((nI q &&& 31).toBitVec.smod 32).toNat).getLsbD j = decide (j = q) := by
    rw [s_l9 q (by omega), BitVec.getLsbD_shiftLeft]
    show (decide (j < 32) && !decide (j < q) && (1#32).getLsbD (j - q)) = _
    rw [BitVec.getLsbD_one]
    by_cases c : j = q
    · subst c; simp; omega
    · by_cases d : j < q
      · simp [d, c]
      · simp [d, c]; omega
  exact congrArg (fun z => x.toBitVec.getLsbD j ^^ z) e
theorem rM_flip {r : Int32} {Z : Nat → Int32} {q : Nat} (h : rM r Z) (hq : q < 12) (h01 : Z (27 + q) = 0 ∨ Z (27 + q) = 1) : rM (r ^^^ (nI 1 <<< (nI q &&& 31))) (upd Z (27 + q) (if Z (27 + q) = 0 then nI 1 else nI 0)) := fun j hj => by
  rw [sh_bt hj, bt_flip hq hj]
  by_cases c : j = q
  · subst c
    rw [upd_s, decide_eq_true rfl]
    have hj2 := (h j hj)
    rw [sh_bt hj] at hj2
    rcases h01 with z | z
    · rw [if_pos z]
      have : bt9 r j = false := by
        cases hb : bt9 r j
        · rfl
        · have := hj2.mp hb; rw [z] at this; exact absurd this (by decide)
      rw [this]; exact ⟨fun _ => rfl, fun _ => rfl⟩
    · rw [if_neg (by rw [z]; decide)]
      have : bt9 r j = true := hj2.mpr z
      rw [this]; exact ⟨fun q => absurd q (by decide), fun q => absurd q (by decide)⟩
  · rw [upd_n (by omega), decide_eq_false c, Bool.xor_false, ← sh_bt hj]
    exact h j hj
