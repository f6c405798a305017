/-! THE START: the law's own rows, made and filled -/
def bF (k : Nat) : Nat → Int32 := fun j => if j < 5 * k then (if j % 5 = 0 then nI 200 else if j % 5 = 1 then nI 1 else 0) else 0
theorem bF_s {k : Nat} : upd (upd (bF k) (5 * k) (nI 200)) (5 * k + 1) (nI 1) = bF (k + 1) := by
  funext j
  by_cases e1 : j = 5 * k + 1
  · subst e1; rw [upd_s]; unfold bF; rw [if_pos (by omega), if_neg (by omega), if_pos (by omega)]
  · rw [upd_n e1]
    by_cases e0 : j = 5 * k
    · subst e0; rw [upd_s]; unfold bF; rw [if_pos (by omega), if_pos (by omega)]
    · rw [upd_n e0]; unfold bF
      by_cases c : j < 5 * k
      · rw [if_pos c, if_pos (show j < 5 * (k + 1) by omega)]
      · rw [if_neg c]
        by_cases d : j < 5 * (k + 1)
        · rw [if_pos d, if_neg (by omega), if_neg (by omega)]
        · rw [if_neg d]
/-- the law's rows while they are filled -/
def lw0 (ct : Nat → ClassId) (B T : Nat → Int32) : Nat → va_E := fun i => match i with
  | 0 => .inl (ct 0, 60, .inl (fun _ => 0))
  | 1 => .inl (ct 0, 20, .inl (fun _ => 0))
  | 2 => .inl (ct 0, 20, .inl B)
  | 3 => .inl (ct 0, 1, .inl (fun _ => 0))
  | _ => .inl (ct 0, 7, .inl T)
def tF : Nat → Int32 := upd (upd (fun _ => 0) 0 (nI 2)) 2 (nI 3)
theorem iZ_A : (fun _ => (0 : Int32)) = vwA iZ := by
  have h : ∀ j, j < 60 → iZ (39 + 8 * (j / 6) + j % 6) = 0 := by decide +kernel
  funext j; unfold vwA
  by_cases c : j < 60
  · rw [if_pos c, h j c]
  · rw [if_neg c]
theorem iZ_M : (fun _ => (0 : Int32)) = vwM iZ := by
  have h : ∀ j, j < 20 → iZ (39 + 8 * (j / 2) + 6 + j % 2) = 0 := by decide +kernel
  funext j; unfold vwM
  by_cases c : j < 20
  · rw [if_pos c, h j c]
  · rw [if_neg c]
theorem iZ_B : bF 4 = vwB iZ := by
  have h : ∀ j, j < 20 → iZ (7 + j) = bF 4 j := by decide +kernel
  funext j
  by_cases c : j < 20
  · rw [show vwB iZ j = iZ (7 + j) from if_pos c, h j c]
  · rw [show vwB iZ j = 0 from if_neg c]; exact if_neg c
theorem iZ_T : tF = vwT iZ := by
  have h : ∀ j, j < 7 → iZ j = tF j := by decide +kernel
  funext j
  by_cases c : j < 7
  · rw [show vwT iZ j = iZ j from if_pos c, h j c]
  · rw [show vwT iZ j = 0 from if_neg c]
    unfold tF
    rw [upd_n (by omega), upd_n (by omega)]
theorem iZ_R : (fun _ => (0 : Int32)) = vwR 0 := by
  funext j; unfold vwR
  by_cases c : j = 0
  · rw [if_pos c]
  · rw [if_neg c]
theorem lw0_eq {ct : Nat → ClassId} : lw0 ct (bF 4) tF = lwc ct iZ 0 := by
  funext i
  rcases i with _ | _ | _ | _ | i
  · show (Sum.inl (ct 0, 60, .inl (fun _ => 0)) : va_E) = Sum.inl (ct 0, 60, .inl (vwA iZ)); rw [iZ_A]
  · show (Sum.inl (ct 0, 20, .inl (fun _ => 0)) : va_E) = Sum.inl (ct 0, 20, .inl (vwM iZ)); rw [iZ_M]
  · show (Sum.inl (ct 0, 20, .inl (bF 4)) : va_E) = Sum.inl (ct 0, 20, .inl (vwB iZ)); rw [iZ_B]
  · show (Sum.inl (ct 0, 1, .inl (fun _ => 0)) : va_E) = Sum.inl (ct 0, 1, .inl (vwR 0)); rw [iZ_R]
  · show (Sum.inl (ct 0, 7, .inl tF) : va_E) = Sum.inl (ct 0, 7, .inl (vwT iZ)); rw [iZ_T]
theorem lw0_B {ct : Nat → ClassId} {B T B' : Nat → Int32} {i0 : Nat} {x0 : Int32} (h : B' = upd B i0 x0) : ∀ i, i < 5 → va_up (lw0 ct B T) 2 (.inl (ct 0, 20, .inl (upd B i0 x0))) i = lw0 ct B' T i := by
  subst h
  intro i hi
  rcases i with _ | _ | _ | _ | _ | i <;> first | rfl | omega
theorem lw0_T {ct : Nat → ClassId} {B T T' : Nat → Int32} {i0 : Nat} {x0 : Int32} (h : T' = upd T i0 x0) : ∀ i, i < 5 → va_up (lw0 ct B T) 4 (.inl (ct 0, 7, .inl (upd T i0 x0))) i = lw0 ct B T' i := by
  subst h
  intro i hi
  rcases i with _ | _ | _ | _ | _ | i <;> first | rfl | omega
theorem csc_at {D : va_G} {ct : Nat → ClassId} {ad ad2 : Nat → Nat} {Ms : Nat → Nat → Int32} {kp B A : Nat → Int32} {nx sz ln a kd : Int32} {H : Heap} {i x : Nat} (h : ∀ j, j < 198 → ad2 j = ad j) (hi : i < 198) (hat : va_at D vwCl (x, csc ct ad Ms kp nx sz B A ln a kd i) H) : va_at D vwCl (x, csc ct ad2 Ms kp nx sz B A ln a kd i) H := by
  by_cases c8 : i < 8
  · rcases (show i = 0 ∨ i = 1 ∨ i = 2 ∨ i = 3 ∨ i = 4 ∨ i = 5 ∨ i = 6 ∨ i = 7 by omega) with rfl | rfl | rfl | rfl | rfl | rfl | rfl | rfl
    · have e : csc ct ad2 Ms kp nx sz B A ln a kd 0 = csc ct ad Ms kp nx sz B A ln a kd 0 := by
        show (Sum.inr (5, csF ad2) : va_E) = Sum.inr (5, csF ad)
        unfold csF
        rw [h 8 (by omega), h 27 (by omega), h 1 (by omega), h 2 (by omega), h 3 (by omega), h 5 (by omega)]
      rw [e]; exact hat
    · have e : H[x]? = some (vp_cell (ct 5) (2, .inr (.inr (.inr (.inr fun k => some (ad (8 + 19 * (2 + k)))))))) := hat
      show H[x]? = some (vp_cell (ct 5) (2, .inr (.inr (.inr (.inr fun k => some (ad2 (8 + 19 * (2 + k))))))))
      rw [e, vp_q]
      intro k hk
      rw [h _ (by omega)]
    · exact hat
    · have e : csc ct ad2 Ms kp nx sz B A ln a kd 3 = csc ct ad Ms kp nx sz B A ln a kd 3 := by
        show (Sum.inr (1, [Value.ref (ad2 4), Value.int nx, Value.int sz]) : va_E) = Sum.inr (1, [Value.ref (ad 4), Value.int nx, Value.int sz])
        rw [h 4 (by omega)]
      rw [e]; exact hat
    · have e : H[x]? = some (vp_cell (ct 5) (6, .inr (.inr (.inr (.inr fun k => some (ad (8 + 19 * (4 + k)))))))) := hat
      show H[x]? = some (vp_cell (ct 5) (6, .inr (.inr (.inr (.inr fun k => some (ad2 (8 + 19 * (4 + k))))))))
      rw [e, vp_q]
      intro k hk
      rw [h _ (by omega)]
    · have e : csc ct ad2 Ms kp nx sz B A ln a kd 5 = csc ct ad Ms kp nx sz B A ln a kd 5 := by
        show (Sum.inr (3, cpF ad2 ln a kd) : va_E) = Sum.inr (3, cpF ad ln a kd)
        unfold cpF
        rw [h 6 (by omega), h 7 (by omega)]
      rw [e]; exact hat
    · exact hat
    · exact hat
  · obtain ⟨r, z, hz, rfl⟩ : ∃ r z, z < 19 ∧ i = 8 + 19 * r + z := ⟨(i - 8) / 19, (i - 8) % 19, by omega, by omega⟩
    rw [csc_m (M := Ms r) hz rfl rfl] at hat ⊢
    rw [mkc_ad (ad := fun z => ad2 (8 + 19 * r + z)) (ad' := fun z => ad (8 + 19 * r + z)) (fun y hy => by show ad2 (8 + 19 * r + y) = ad (8 + 19 * r + y); rw [h _ (by omega)])]
    exact hat
/-- one row more -/
theorem st_snoc {D : va_G} {ct : Nat → ClassId} {ad ad' : Nat → Nat} {Ms : Nat → Nat → Int32} {L : Nat → va_E} {H : Heap} {j : Nat} {e : va_E} (h : ∀ k, k < 198 → ad' k = ad k) (hP : fP D (198 + j + 1) ad' (va_up (pcw (oS ct ad Ms 0 0) L) (198 + j) e) H) (he : e = L j) : fP D (198 + (j + 1)) ad' (pcw (oS ct ad' Ms 0 0) L) H := by
  subst he
  refine fP.of fun i hi => ?_
  have h1 := hP.at (k := i) (by omega)
  by_cases c : i = 198 + j
  · subst c
    unfold va_up at h1
    rw [if_pos rfl] at h1
    rw [pcr (N1 := j + 1) j (by omega)]
    exact h1
  · rw [va_up_ne _ _ c] at h1
    by_cases d : i < 198
    · rw [pcl i d] at h1 ⊢
      exact csc_at h d h1
    · obtain ⟨z, rfl⟩ : ∃ z, i = 198 + z := ⟨i - 198, by omega⟩
      rw [pcr (N1 := z + 1) z (by omega)] at h1 ⊢
      exact h1
theorem st_fill {p : Program} {l : Launch} {e : Env} {s : State} {m : MethodId} {below : List Frame} {meth : Method} {c : Code} {Q : State → Prop} {D : va_G} {ct : Nat → ClassId} {ad : Nat → Nat} {b : Nat} (hx : p.tables.exec = Jvm.exec) (hb : c.code = code) (hK : va_K D vwCl (fTys ct) s) (hI : fI 203 ad) (hA0 : ∀ i, i < 203 → lA s (ad i)) {O : Nat → va_E} {T : Nat → Int32} {c0 s0 : Nat} (kk : ∀ (H : Heap) (locs : List Loc) (ls : Array Slot), fP D 203 ad (pcw O (lw0 ct (bF 4) T)) H → va_S (lA s) s.heap H locs → lv_has ls 16 [(7, .int (nI 4)), (6, .ref (ad 202)), (5, .ref (ad 201)), (4, .ref (ad 200)), (3, .ref (ad 199)), (2, .ref (ad 198)), (1, .ref (ad 0)), (0, .ref b)] → W p l e room_1 s m #[Value.ref b] below meth c H locs c0 s0 Q (F0 m 80 ls [])) : ∀ (f k : Nat), k ≤ 4 → 4 - k < f → ∀ (H : Heap) (locs : List Loc) (ls : Array Slot), fP D 203 ad (pcw O (lw0 ct (bF k) T)) H → va_S (lA s) s.heap H locs → lv_has ls 16 [(7, .int (nI k)), (6, .ref (ad 202)), (5, .ref (ad 201)), (4, .ref (ad 200)), (3, .ref (ad 199)), (2, .ref (ad 198)), (1, .ref (ad 0)), (0, .ref b)] → W p l e room_1 s m #[Value.ref b] below meth c H locs c0 s0 Q (F0 m 48 ls [])
  | 0, _, _, h => absurd h (Nat.not_lt_zero _)
  | f + 1, k, h1, h2 => by
    intro H locs ls hP hS hl
    refine lv_iload hx hb dL_law_48 (lv_at hl 0 rfl) ?_
    refine lv_iconst (v := nI 4) hx hb dL_law_50 (by decide) ?_
    refine lv_icmp_geN (tgt := 80) hx hb (by omega) (by omega) dL_law_51 (by decide) (fun c51 => ?_) (fun c51 => ?_)
    · obtain rfl : k = 4 := by omega
      exact kk H locs ls hP hS hl
    · refine lv_aload hx hb dL_law_54 (lv_at hl 3 rfl) ?_
      refine lv_iconst (v := nI 5) hx hb dL_law_56 (by decide) ?_
      refine lv_iload hx hb dL_law_57 (lv_at hl 0 rfl) ?_
      refine lv_imulN hx hb dL_law_59 ?_
      refine lv_sipush (v := nI 200) hx hb dL_law_60 (by decide) ?_
      refine fr_iast (k := 200) (f := bF k) (len := 20) hx hb hK hI hP hS hA0 (by decide) rfl (by omega) (by decide) dL_law_63 (pcw5_he (O := O) (k := 2) (by decide) (lw0_B (T := T) rfl)) (fun H locs hP hS => ?_)
      refine lv_aload hx hb dL_law_64 (lv_at hl 3 rfl) ?_
      refine lv_iconst (v := nI 5) hx hb dL_law_66 (by decide) ?_
      refine lv_iload hx hb dL_law_67 (lv_at hl 0 rfl) ?_
      refine lv_imulN hx hb dL_law_69 ?_
      refine lv_iconst (v := nI 1) hx hb dL_law_70 (by decide) ?_
      refine lv_iaddN hx hb dL_law_71 ?_
      refine lv_iconst (v := nI 1) hx hb dL_law_72 (by decide) ?_
      refine fr_iast (k := 200) (f := upd (bF k) (5 * k) (nI 200)) (len := 20) hx hb hK hI hP hS hA0 (by decide) rfl (by omega) (by decide) dL_law_73 (pcw5_he (O := O) (k := 2) (by decide) (lw0_B (T := T) bF_s.symm)) (fun H locs hP hS => ?_)
      refine lv_iinc (v := nI (k + 1)) (lv' := [(7, .int (nI (k + 1))), (6, .ref (ad 202)), (5, .ref (ad 201)), (4, .ref (ad 200)), (3, .ref (ad 199)), (2, .ref (ad 198)), (1, .ref (ad 0)), (0, .ref b)]) hx hb dL_law_74 hl (k := 0) rfl (nI_add k 1) (by decide) rfl (fun ls hl => ?_)
      refine lv_goto (tgt := 48) hx hb dL_law_77 (by decide) ?_
      exact st_fill hx hb hK hI hA0 kk f (k + 1) (by omega) (by omega) H locs ls hP hS hl
theorem st_LJ {ct : Nat → ClassId} {ad : Nat → Nat} : LJ ct ad (oS ct ad (fun _ => iM) 0 0) iZ 0 0 0 := by
  refine ⟨⟨fun _ => iM, 0, 0, rfl, fun z hz => iM_eq z (by omega), by decide, by decide⟩, iZ_rI, ⟨⟨by omega, by decide +kernel, fun k hk => absurd hk (by omega), fun b hb => ?_⟩, fun q hq => ?_, ⟨0, by omega, by decide +kernel⟩, fun k hk => absurd hk (by omega)⟩, fun k _ hk => ?_, by decide +kernel, ⟨0, by omega, by decide +kernel⟩, Or.inr rfl⟩
  · rw [(iZ_on b hb).2.2.1]; decide
  · rw [iZ_ov q hq]
    have h : ∀ q, q < 12 → ¬ ((0 : Int32) >>> (nI q &&& 31)) &&& nI 1 = nI 1 := by decide +kernel
    exact ⟨fun e => absurd e (h q hq), fun e => absurd e (by decide)⟩
  · have h : ∀ k, k < 10 → iZ (39 + 8 * k + 5) = 0 ∧ iZ (39 + 8 * k + 6) = 0 ∧ iZ (39 + 8 * k + 7) = 0 := by decide +kernel
    exact h k hk
