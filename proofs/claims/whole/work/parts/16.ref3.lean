/-! THE REFERENCE: an hour, sums, what is put aside -/
def htZ (Z : Nat → Int32) (b n : Nat) : Int32 := if Z (7 + 5 * b + 1) = nI 1 ∧ 0 < carS Z b n - Z (7 + 5 * b + 0) then Z (7 + 5 * b + 2) + (carS Z b n - Z (7 + 5 * b + 0)) / nI 10 + nI 1 else if Z (7 + 5 * b + 2) < Z 0 then nI 0 else Z (7 + 5 * b + 2) - Z 0
def wr1 (Z : Nat → Int32) (b n : Nat) : Nat → Int32 := upd Z (7 + 5 * b + 2) (htZ Z b n)
def warmZ (Z : Nat → Int32) (b n : Nat) : Nat → Int32 := upd (wr1 Z b n) (7 + 5 * b + 4) (wr1 Z b n (7 + 5 * b + 4) + carS (wr1 Z b n) b n)
def mt1 (Z : Nat → Int32) (k : Nat) : Nat → Int32 := upd Z (39 + 8 * k + 6) (Z (39 + 8 * k + 6) + (if rsn Z k = 0 then Z (39 + 8 * k + 0) else nI 0))
def mt2 (Z : Nat → Int32) (k : Nat) : Nat → Int32 := upd (mt1 Z k) (39 + 8 * k + 7) (mt1 Z k (39 + 8 * k + 7) + (if 1 < rsn Z k then nI 1 else nI 0))
def meterZ (Z : Nat → Int32) (k : Nat) : Nat → Int32 := upd (mt2 Z k) 6 (mt2 Z k 6 + (if rsn Z k = 0 then nI 1 else nI 0))
theorem wr1_zW {Z : Nat → Int32} {b n : Nat} (h : zW Z n) (hb : b < 4) : zW (wr1 Z b n) n := zW_upd h (by omega) (fun _ _ => by omega) (fun _ _ => by omega)
theorem warmZ_zW {Z : Nat → Int32} {b n : Nat} (h : zW Z n) (hb : b < 4) : zW (warmZ Z b n) n := zW_upd (wr1_zW h hb) (by omega) (fun _ _ => by omega) (fun _ _ => by omega)
theorem meterZ_zW {Z : Nat → Int32} {k n : Nat} (h : zW Z n) : zW (meterZ Z k) n := zW_upd (zW_upd (zW_upd h (by omega) (fun _ _ => by omega) (fun _ _ => by omega)) (by omega) (fun _ _ => by omega) (fun _ _ => by omega)) (by omega) (fun _ _ => by omega) (fun _ _ => by omega)
def shdS (Z : Nat → Int32) (n : Nat) : Nat → (Nat → Int32)
  | 0 => Z
  | b + 1 => shdZ (shdS Z n b) b n
def warmS (Z : Nat → Int32) (n : Nat) : Nat → (Nat → Int32)
  | 0 => Z
  | b + 1 => warmZ (warmS Z n b) b n
def metS (Z : Nat → Int32) : Nat → (Nat → Int32)
  | 0 => Z
  | k + 1 => meterZ (metS Z k) k
def trC (Z : Nat → Int32) (b : Nat) : Bool := decide (Z (7 + 5 * b + 1) = nI 1) && decide (nI 9 < Z (7 + 5 * b + 2))
def tr1 (Z : Nat → Int32) (b : Nat) : Nat → Int32 := upd (upd Z (7 + 5 * b + 1) (nI 0)) (7 + 5 * b + 3) ((upd Z (7 + 5 * b + 1) (nI 0)) (7 + 5 * b + 3) + nI 1)
def tripZ (Z : Nat → Int32) : Nat → (Nat → Int32)
  | 0 => Z
  | b + 1 => if trC (tripZ Z b) b = true then tr1 (tripZ Z b) b else tripZ Z b
def tripT (Z : Nat → Int32) : Nat → Int32
  | 0 => 0
  | b + 1 => if trC (tripZ Z b) b = true then tripT Z b + nI 1 else tripT Z b
theorem shdS_zW {Z : Nat → Int32} {n : Nat} (h : zW Z n) : ∀ i, zW (shdS Z n i) n
  | 0 => h
  | i + 1 => shdZ_zW (shdS_zW h i)
theorem warmS_zW {Z : Nat → Int32} {n : Nat} (h : zW Z n) : ∀ i, i ≤ 4 → zW (warmS Z n i) n
  | 0, _ => h
  | i + 1, hi => warmZ_zW (warmS_zW h i (by omega)) (by omega)
theorem metS_zW {Z : Nat → Int32} {n : Nat} (h : zW Z n) : ∀ i, zW (metS Z i) n
  | 0 => h
  | i + 1 => meterZ_zW (metS_zW h i)
theorem tr1_zW {Z : Nat → Int32} {b n : Nat} (h : zW Z n) (hb : b < 4) : zW (tr1 Z b) n := zW_upd (zW_upd h (by omega) (fun _ _ => by omega) (fun _ _ => by omega)) (by omega) (fun _ _ => by omega) (fun _ _ => by omega)
theorem tripZ_zW {Z : Nat → Int32} {n : Nat} (h : zW Z n) : ∀ i, i ≤ 4 → zW (tripZ Z i) n
  | 0, _ => h
  | i + 1, hi => by
    unfold tripZ
    split
    · exact tr1_zW (tripZ_zW h i (by omega)) (by omega)
    · exact tripZ_zW h i (by omega)
/-- the row when the hour has gone by, but for the trips and the hour -/
def hrA (Z : Nat → Int32) (n : Nat) : Nat → Int32 := metS (warmS (shdS Z n 4) n 4) n
def hrZ (Z : Nat → Int32) (n : Nat) : Nat → Int32 := upd (tripZ (hrA Z n) 4) 3 (tripZ (hrA Z n) 4 3 + nI 1)
def hrT (Z : Nat → Int32) (n : Nat) : Int32 := tripT (hrA Z n) 4
theorem hrA_zW {Z : Nat → Int32} {n : Nat} (h : zW Z n) : zW (hrA Z n) n := metS_zW (warmS_zW (shdS_zW h 4) 4 (Nat.le_refl 4)) n
theorem hrZ_zW {Z : Nat → Int32} {n : Nat} (h : zW Z n) : zW (hrZ Z n) n := zW_upd (tripZ_zW (hrA_zW h) 4 (Nat.le_refl 4)) (by omega) (fun _ _ => by omega) (fun _ _ => by omega)
def hsZ (Z : Nat → Int32) (n : Nat) : Nat → (Nat → Int32)
  | 0 => Z
  | i + 1 => hrZ (hsZ Z n i) n
def hsT (Z : Nat → Int32) (n : Nat) : Nat → Int32
  | 0 => 0
  | i + 1 => hsT Z n i + hrT (hsZ Z n i) n
theorem hsZ_zW {Z : Nat → Int32} {n : Nat} (h : zW Z n) : ∀ i, zW (hsZ Z n i) n
  | 0 => h
  | i + 1 => hrZ_zW (hsZ_zW h i)
def comeZ (Z : Nat → Int32) (n : Nat) (a0 a1 a2 a3 : Int32) : Nat → Int32 := upd (upd (upd (upd (upd (upd (upd (upd (upd Z (39 + 8 * n + 0) a0) (39 + 8 * n + 1) a1) (39 + 8 * n + 2) a2) (39 + 8 * n + 3) a3) (39 + 8 * n + 4) (-1)) (39 + 8 * n + 5) (nI 0)) (39 + 8 * n + 6) (nI 0)) (39 + 8 * n + 7) (nI 0)) 4 (nI (n + 1))
def cpo (src dst : Nat → Int32) (o i : Nat) : Nat → Int32 := fun j => if o ≤ j ∧ j < o + i then src (j - o) else dst j
def shf (f : Nat → Int32) (i : Nat) : Nat → Int32 := fun j => if j < i then f (j + 119) else f j
theorem va_up_up {α : Type} (f : Nat → α) (k : Nat) (a b : α) : va_up (va_up f k a) k b = va_up f k b := by
  funext j; unfold va_up; split <;> rfl
theorem va_up_id {α : Type} (f : Nat → α) (k : Nat) : va_up f k (f k) = f := by
  funext j; unfold va_up; split
  · rename_i h; rw [h]
  · rfl
theorem cpo_0 (src dst : Nat → Int32) (o : Nat) : cpo src dst o 0 = dst := by
  funext j; unfold cpo; rw [if_neg (by omega)]
theorem shf_0 (f : Nat → Int32) : shf f 0 = f := by
  funext j; unfold shf; rw [if_neg (by omega)]
theorem cpo_s (src dst : Nat → Int32) (o i : Nat) : upd (cpo src dst o i) (o + i) (src i) = cpo src dst o (i + 1) := by
  funext j; unfold upd cpo
  by_cases h : j = o + i
  · subst h
    rw [if_pos rfl, if_pos (by omega)]
    congr 1
    omega
  · rw [if_neg h]
    by_cases h2 : o ≤ j ∧ j < o + i
    · rw [if_pos h2, if_pos (by omega)]
    · rw [if_neg h2, if_neg (by omega)]
theorem shf_s (f : Nat → Int32) (i : Nat) : upd (shf f i) i (shf f i (i + 119)) = shf f (i + 1) := by
  funext j; unfold upd shf
  by_cases h : j = i
  · subst h
    rw [if_pos rfl, if_neg (by omega), if_pos (by omega)]
  · rw [if_neg h]
    by_cases h2 : j < i
    · rw [if_pos h2, if_pos (by omega)]
    · rw [if_neg h2, if_neg (by omega)]
theorem upd_upd (f : Nat → Int32) (k : Nat) (a b : Int32) : upd (upd f k a) k b = upd f k b := by
  funext j; unfold upd; split <;> rfl
/-- the saved states after one more -/
def svf (f Z : Nat → Int32) (q : Nat) : Nat → Int32 := if q = 6 then cpo Z (shf f 595) 595 119 else cpo Z f (q * 119) 119
def svn (q : Nat) : Nat := if q = 6 then 6 else q + 1
theorem vp_ext {cA : ClassId} {n : Nat} {f f' : Nat → Int32} (h : ∀ j, j < n → f j = f' j) : vp_cell cA (n, .inl f) = vp_cell cA (n, .inl f') := by
  rw [vp_cell_i, vp_cell_i]
  unfold arrV
  congr 1
  apply Array.ext
  · simp
  · intro i h1 h2
    simp at h1
    simp [h i h1]
theorem md_ext {D : va_G} {ct : Nat → ClassId} {ad : Nat → Nat} {Z Z' g : Nat → Int32} {hs : Int64} {F F' : Nat → Nat → Int32} {H : Heap} (h : fP D 8 ad (mdc ct ad Z g hs F) H) (hZ : ∀ j, j < 119 → Z j = Z' j) (h2 : ∀ j, j < 714 → F 2 j = F' 2 j) (h3 : ∀ j, j < 238 → F 3 j = F' 3 j) (h4 : ∀ j, j < 2 → F 4 j = F' 4 j) (h5 : ∀ j, j < 119 → F 5 j = F' 5 j) (h6 : ∀ j, j < 60 → F 6 j = F' 6 j) (h7 : ∀ j, j < 110 → F 7 j = F' 7 j) : fP D 8 ad (mdc ct ad Z' g hs F') H := by
  refine fP.of fun k hk => ?_
  have q := h.at hk
  rcases k with _|_|_|_|_|_|_|_|k
  · exact q
  · exact q.trans (congrArg some (vp_ext hZ))
  · exact q.trans (congrArg some (vp_ext h2))
  · exact q.trans (congrArg some (vp_ext h3))
  · exact q.trans (congrArg some (vp_ext h4))
  · exact q.trans (congrArg some (vp_ext h5))
  · exact q.trans (congrArg some (vp_ext h6))
  · exact q.trans (congrArg some (vp_ext h7))
  · omega
def satN (Z : Nat → Int32) (q : Int32) : Nat → Nat
  | 0 => 10
  | i + 1 => if Z (39 + 8 * i + 4) = q then i else satN Z q i
theorem satN_t {Z : Nat → Int32} {q : Int32} {i : Nat} (h : Z (39 + 8 * i + 4) = q) : satN Z q (i + 1) = i := if_pos h
theorem satN_f {Z : Nat → Int32} {q : Int32} {i : Nat} (h : ¬ Z (39 + 8 * i + 4) = q) : satN Z q (i + 1) = satN Z q i := if_neg h
def wnp (Z : Nat → Int32) (n : Nat) (a b : Int32) : Nat := if stB Z a = false then 1 else if inB b 0 11 = false then 2 else if ox (satN Z b n) = -1 then 0 else 3
theorem wnp_lt {Z : Nat → Int32} {n : Nat} {a b : Int32} : wnp Z n a b < 4 := by unfold wnp; repeat' split <;> first | omega | skip
def drS (Z : Nat → Int32) (b : Nat) : Nat → Int32
  | 0 => 0
  | i + 1 => drS Z b i + (if drwB Z i b = true then nI 1 else nI 0)
def drA (Z : Nat → Int32) : Nat → Int32
  | 0 => 0
  | i + 1 => drA Z i + (if rsn Z i = 0 then nI 1 else nI 0)
def feeI (Z : Nat → Int32) (k : Nat) : Int32 := Z (39 + 8 * k + 6) * Z 2 / nI 10
def tldS (Z : Nat → Int32) (k w : Nat) : Int32 := if w < 8 then Z (39 + 8 * k + w) else if w = 8 then nI (rsn Z k) else feeI Z k
def allS (Z : Nat → Int32) (b : Nat) : Nat → Int32
  | 0 => 0
  | i + 1 => allS Z b i + (if (onB Z i b && decide (Z (39 + 8 * i + 5) = 0)) = true then Z (39 + 8 * i + 0) else nI 0)
def tldB (Z : Nat → Int32) (b n w : Nat) : Int32 := if w = 3 then carS Z b n else if w = 4 then allS Z b n else if w < 3 then Z (7 + 5 * b + w) else Z (7 + 5 * b + (w - 2))
def sumS (Z : Nat → Int32) (w : Nat) : Nat → Int32
  | 0 => 0
  | i + 1 => sumS Z w i + tldS Z i w
def sumB (Z : Nat → Int32) (w : Nat) : Nat → Int32
  | 0 => 0
  | i + 1 => sumB Z w i + Z (7 + 5 * i + w)
def plgS (Z : Nat → Int32) : Nat → Int32
  | 0 => 0
  | i + 1 => plgS Z i + (if Z (39 + 8 * i + 4) = -1 then nI 0 else nI 1)
def cntD (Z : Nat → Int32) (sm : Int32) (n w : Nat) : Int32 := if w = 0 then Z 3 else if w = 1 then Z 4 else if w = 2 then plgS Z n else if w = 3 then drA Z n else if w = 4 then sumB Z 1 4 else if w = 5 then sumS Z 6 n else if w = 6 then sumB Z 4 4 else if w = 7 then sumB Z 3 4 else if w = 8 then sumS Z 7 n else if w = 9 then sumS Z 9 n else if w = 10 then Z 5 else sm
def tknB (Z : Nat → Int32) (n a : Nat) (q : Int32) : Bool := decide (¬ ox (satN Z q n) = -1) && decide (¬ ox (satN Z q n) = nI a)
set_option maxRecDepth 100000 in
set_option maxHeartbeats 4000000 in
theorem m6_warm (l : Launch) (D : va_G) (ct : Nat → ClassId) (ad : Nat → Nat) (Z g : Nat → Int32) (hs : Int64) (F : Nat → Nat → Int32) (b : Nat) (n : Nat)  (hw : zW Z n) (hb4 : b < 4) : FMet l yX6_warm cX6_warm 4 (none : Option Jvm.ClassFile.FieldType) 4 90 D ct 8 ad [.ref (ad 0), .int (nI b)] (mdc ct ad Z g hs F) none (mdc ct ad (warmZ Z b n) g hs F) := by
  refine FMet.of (by decide +kernel) (Nat.le_of_ble_eq_true rfl) ?_
  intro p e s m args below meth c ls hx hb hr hml hown hlocks htg hK hI hP hS hl
  have hl : lv_has ls 4 [(0, .ref (ad 0)), (1, .int (nI b))] := hl
  have hn10 := hw.1
  refine lv_aload_n hx hb dX6_warm_0 rfl (lv_at hl 0 rfl) ?_
  refine lv_iload_n hx hb dX6_warm_1 rfl (lv_at hl 1 rfl) ?_
  refine md_cVr (As := [.int (nI b)]) (rest := []) hx hb hown htg hK hI hS hP hml hl.1 (m6_carried l D ct ad _ _ _ _ b n hw (by omega)) cw_X6_72 rfl rfl ⟨Nat.le_of_ble_eq_true rfl, Nat.le_of_ble_eq_true rfl⟩ (Nat.le_of_ble_eq_true rfl) dX6_warm_2 ⟨Nat.le_refl _, Nat.le_refl _⟩ (fun H locs hP hS => ?_)
  refine lv_aload_n hx hb dX6_warm_5 rfl (lv_at hl 0 rfl) ?_
  refine lv_iload_n hx hb dX6_warm_6 rfl (lv_at hl 1 rfl) ?_
  refine lv_iconst (v := nI 0) hx hb dX6_warm_7 (by decide) ?_
  refine md_cVr (As := [.int (nI b), .int (nI 0)]) (rest := [.int (carS Z b n)]) hx hb hown htg hK hI hS hP hml hl.1 (m6_by l D ct ad _ _ _ _ b 0 (by omega) (by omega)) cw_X6_59 rfl rfl ⟨Nat.le_of_ble_eq_true rfl, Nat.le_of_ble_eq_true rfl⟩ (Nat.le_of_ble_eq_true rfl) dX6_warm_8 ⟨Nat.le_refl _, Nat.le_refl _⟩ (fun H locs hP hS => ?_)
  refine lv_isub hx hb dX6_warm_11 ?_
  refine lv_istore_n (lv' := [(2, .int ((carS Z b n) - (Z (7 + 5 * b + 0)))), (0, .ref (ad 0)), (1, .int (nI b))]) hx hb dX6_warm_12 rfl hl (by decide) rfl (fun ls hl => ?_)
  refine lv_aload_n hx hb dX6_warm_13 rfl (lv_at hl 1 rfl) ?_
  refine lv_iload_n hx hb dX6_warm_14 rfl (lv_at hl 2 rfl) ?_
  refine lv_iconst (v := nI 2) hx hb dX6_warm_15 (by decide) ?_
  refine md_cVr (As := [.int (nI b), .int (nI 2)]) (rest := []) hx hb hown htg hK hI hS hP hml hl.1 (m6_by l D ct ad _ _ _ _ b 2 (by omega) (by omega)) cw_X6_59 rfl rfl ⟨Nat.le_of_ble_eq_true rfl, Nat.le_of_ble_eq_true rfl⟩ (Nat.le_of_ble_eq_true rfl) dX6_warm_16 ⟨Nat.le_refl _, Nat.le_refl _⟩ (fun H locs hP hS => ?_)
  refine lv_aload_n hx hb dX6_warm_19 rfl (lv_at hl 1 rfl) ?_
  refine md_g1 hx hb hown htg hK hP dX6_warm_20 ?_
  refine lv_iconst (v := nI 0) hx hb dX6_warm_23 (by decide) ?_
  refine md_l1 hx hb hK hP (by omega) dX6_warm_24 ?_
  refine lv_icmp_geR (tgt := 32) hx hb dX6_warm_25 (by decide) (fun c25 => ?_) (fun c25 => ?_)
  · refine lv_aload_n hx hb dX6_warm_32 rfl (lv_at hl 1 rfl) ?_
    refine lv_iload_n hx hb dX6_warm_33 rfl (lv_at hl 2 rfl) ?_
    refine lv_iconst (v := nI 2) hx hb dX6_warm_34 (by decide) ?_
    refine md_cVr (As := [.int (nI b), .int (nI 2)]) (rest := []) hx hb hown htg hK hI hS hP hml hl.1 (m6_by l D ct ad _ _ _ _ b 2 (by omega) (by omega)) cw_X6_59 rfl rfl ⟨Nat.le_of_ble_eq_true rfl, Nat.le_of_ble_eq_true rfl⟩ (Nat.le_of_ble_eq_true rfl) dX6_warm_35 ⟨Nat.le_refl _, Nat.le_refl _⟩ (fun H locs hP hS => ?_)
    refine lv_aload_n hx hb dX6_warm_38 rfl (lv_at hl 1 rfl) ?_
    refine md_g1 hx hb hown htg hK hP dX6_warm_39 ?_
    refine lv_iconst (v := nI 0) hx hb dX6_warm_42 (by decide) ?_
    refine md_l1 hx hb hK hP (by omega) dX6_warm_43 ?_
    refine lv_isub hx hb dX6_warm_44 ?_
    refine lv_istore_n (lv' := [(3, .int ((Z (7 + 5 * b + 2)) - (Z 0))), (2, .int ((carS Z b n) - (Z (7 + 5 * b + 0)))), (0, .ref (ad 0)), (1, .int (nI b))]) hx hb dX6_warm_45 rfl hl (by decide) rfl (fun ls hl => ?_)
    refine lv_aload_n hx hb dX6_warm_46 rfl (lv_at hl 2 rfl) ?_
    refine lv_iload_n hx hb dX6_warm_47 rfl (lv_at hl 3 rfl) ?_
    refine lv_iconst (v := nI 2) hx hb dX6_warm_48 (by decide) ?_
    refine lv_aload_n hx hb dX6_warm_49 rfl (lv_at hl 2 rfl) ?_
    refine lv_iload_n hx hb dX6_warm_50 rfl (lv_at hl 3 rfl) ?_
    refine lv_iconst (v := nI 1) hx hb dX6_warm_51 (by decide) ?_
    refine md_cVr (As := [.int (nI b), .int (nI 1)]) (rest := [.int (nI 2), .int (nI b), .ref (ad 0)]) hx hb hown htg hK hI hS hP hml hl.1 (m6_by l D ct ad _ _ _ _ b 1 (by omega) (by omega)) cw_X6_59 rfl rfl ⟨Nat.le_of_ble_eq_true rfl, Nat.le_of_ble_eq_true rfl⟩ (Nat.le_of_ble_eq_true rfl) dX6_warm_52 ⟨Nat.le_refl _, Nat.le_refl _⟩ (fun H locs hP hS => ?_)
    refine lv_iconst (v := nI 1) hx hb dX6_warm_55 (by decide) ?_
    refine lv_icmp_ne (tgt := 79) hx hb dX6_warm_56 (by decide) (fun c56 => ?_) (fun c56 => ?_)
    · refine lv_iload_n hx hb dX6_warm_79 rfl (lv_at hl 0 rfl) ?_
      refine md_cV0 (As := [.int (nI b), .int (nI 2), .int ((Z (7 + 5 * b + 2)) - (Z 0))]) (rest := []) hx hb hown htg hK hI hS hP hml hl.1 (m6_put l D ct ad _ _ _ _ b 2 ((Z (7 + 5 * b + 2)) - (Z 0)) (by omega) (by omega)) cw_X6_32 rfl rfl ⟨Nat.le_of_ble_eq_true rfl, Nat.le_of_ble_eq_true rfl⟩ (Nat.le_of_ble_eq_true rfl) dX6_warm_80 ⟨Nat.le_refl _, Nat.le_refl _⟩ (fun H locs hP hS => ?_)
      refine lv_aload_n hx hb dX6_warm_83 rfl (lv_at hl 2 rfl) ?_
      refine lv_iload_n hx hb dX6_warm_84 rfl (lv_at hl 3 rfl) ?_
      refine lv_iconst (v := nI 4) hx hb dX6_warm_85 (by decide) ?_
      refine lv_aload_n hx hb dX6_warm_86 rfl (lv_at hl 2 rfl) ?_
      refine lv_iload_n hx hb dX6_warm_87 rfl (lv_at hl 3 rfl) ?_
      refine lv_iconst (v := nI 4) hx hb dX6_warm_88 (by decide) ?_
      refine md_cVr (As := [.int (nI b), .int (nI 4)]) (rest := [.int (nI 4), .int (nI b), .ref (ad 0)]) hx hb hown htg hK hI hS hP hml hl.1 (m6_by l D ct ad _ _ _ _ b 4 (by omega) (by omega)) cw_X6_59 rfl rfl ⟨Nat.le_of_ble_eq_true rfl, Nat.le_of_ble_eq_true rfl⟩ (Nat.le_of_ble_eq_true rfl) dX6_warm_89 ⟨Nat.le_refl _, Nat.le_refl _⟩ (fun H locs hP hS => ?_)
      refine lv_aload_n hx hb dX6_warm_92 rfl (lv_at hl 2 rfl) ?_
      refine lv_iload_n hx hb dX6_warm_93 rfl (lv_at hl 3 rfl) ?_
      refine md_cVr (As := [.int (nI b)]) (rest := [.int ((upd Z (7 + 5 * b + 2) ((Z (7 + 5 * b + 2)) - (Z 0))) (7 + 5 * b + 4)), .int (nI 4), .int (nI b), .ref (ad 0)]) hx hb hown htg hK hI hS hP hml hl.1 (m6_carried l D ct ad _ _ _ _ b n (zW_upd hw (by omega) (fun _ _ => by omega) (fun _ _ => by omega)) (by omega)) cw_X6_72 rfl rfl ⟨Nat.le_of_ble_eq_true rfl, Nat.le_of_ble_eq_true rfl⟩ (Nat.le_of_ble_eq_true rfl) dX6_warm_94 ⟨Nat.le_refl _, Nat.le_refl _⟩ (fun H locs hP hS => ?_)
      refine lv_iadd hx hb dX6_warm_97 ?_
      refine md_cV0 (As := [.int (nI b), .int (nI 4), .int (((upd Z (7 + 5 * b + 2) ((Z (7 + 5 * b + 2)) - (Z 0))) (7 + 5 * b + 4)) + (carS (upd Z (7 + 5 * b + 2) ((Z (7 + 5 * b + 2)) - (Z 0))) b n))]) (rest := []) hx hb hown htg hK hI hS hP hml hl.1 (m6_put l D ct ad _ _ _ _ b 4 (((upd Z (7 + 5 * b + 2) ((Z (7 + 5 * b + 2)) - (Z 0))) (7 + 5 * b + 4)) + (carS (upd Z (7 + 5 * b + 2) ((Z (7 + 5 * b + 2)) - (Z 0))) b n)) (by omega) (by omega)) cw_X6_32 rfl rfl ⟨Nat.le_of_ble_eq_true rfl, Nat.le_of_ble_eq_true rfl⟩ (Nat.le_of_ble_eq_true rfl) dX6_warm_98 ⟨Nat.le_refl _, Nat.le_refl _⟩ (fun H locs hP hS => ?_)
      refine fr_vret hx hb hr hlocks hK hI hS dX6_warm_101 ?_
      refine fP.eqc (congrArg (fun v9 => mdc ct ad v9 g hs F) (show (warmZ Z b n) = (upd (upd Z (7 + 5 * b + 2) ((Z (7 + 5 * b + 2)) - (Z 0))) (7 + 5 * b + 4) (((upd Z (7 + 5 * b + 2) ((Z (7 + 5 * b + 2)) - (Z 0))) (7 + 5 * b + 4)) + (carS (upd Z (7 + 5 * b + 2) ((Z (7 + 5 * b + 2)) - (Z 0))) b n))) from by first | (exfalso; omega) | (simp only [warmZ, wr1, htZ, c25, Int32.not_lt.mpr c25, c56, decide_true, decide_false, Bool.and_true, Bool.true_and, Bool.and_false, Bool.false_and, Bool.or_true, Bool.true_or, Bool.or_false, Bool.false_or, Bool.and_self, Bool.or_self, if_true, if_false, eq_self, Bool.false_eq_true, Bool.true_eq_false, reduceCtorEq, nI_0, not_true_eq_false, not_false_eq_true, and_true, true_and, and_false, false_and, or_true, true_or, or_false, false_or, and_self, or_self, Int32.add_zero]; done) | (simp [warmZ, wr1, htZ, c25, Int32.not_lt.mpr c25, c56, nI_0]; done) | (simp only [warmZ, wr1, htZ, c25, Int32.not_lt.mpr c25, c56, decide_true, decide_false, Bool.and_true, Bool.true_and, Bool.and_false, Bool.false_and, Bool.or_true, Bool.true_or, Bool.or_false, Bool.false_or, Bool.and_self, Bool.or_self, if_true, if_false, eq_self, Bool.false_eq_true, Bool.true_eq_false, reduceCtorEq, nI_0, not_true_eq_false, not_false_eq_true, and_true, true_and, and_false, false_and, or_true, true_or, or_false, false_or, and_self, or_self, Int32.add_zero]; omega) | (simp [warmZ, wr1, htZ, c25, Int32.not_lt.mpr c25, c56, nI_0]; omega)).symm) ?_
      exact hP
    · refine lv_iload_n hx hb dX6_warm_59 rfl (lv_at hl 1 rfl) ?_
      refine lv_ifleR (tgt := 79) hx hb dX6_warm_60 (by decide) (fun c60 => ?_) (fun c60 => ?_)
      · refine lv_iload_n hx hb dX6_warm_79 rfl (lv_at hl 0 rfl) ?_
        refine md_cV0 (As := [.int (nI b), .int (nI 2), .int ((Z (7 + 5 * b + 2)) - (Z 0))]) (rest := []) hx hb hown htg hK hI hS hP hml hl.1 (m6_put l D ct ad _ _ _ _ b 2 ((Z (7 + 5 * b + 2)) - (Z 0)) (by omega) (by omega)) cw_X6_32 rfl rfl ⟨Nat.le_of_ble_eq_true rfl, Nat.le_of_ble_eq_true rfl⟩ (Nat.le_of_ble_eq_true rfl) dX6_warm_80 ⟨Nat.le_refl _, Nat.le_refl _⟩ (fun H locs hP hS => ?_)
        refine lv_aload_n hx hb dX6_warm_83 rfl (lv_at hl 2 rfl) ?_
        refine lv_iload_n hx hb dX6_warm_84 rfl (lv_at hl 3 rfl) ?_
        refine lv_iconst (v := nI 4) hx hb dX6_warm_85 (by decide) ?_
        refine lv_aload_n hx hb dX6_warm_86 rfl (lv_at hl 2 rfl) ?_
        refine lv_iload_n hx hb dX6_warm_87 rfl (lv_at hl 3 rfl) ?_
        refine lv_iconst (v := nI 4) hx hb dX6_warm_88 (by decide) ?_
        refine md_cVr (As := [.int (nI b), .int (nI 4)]) (rest := [.int (nI 4), .int (nI b), .ref (ad 0)]) hx hb hown htg hK hI hS hP hml hl.1 (m6_by l D ct ad _ _ _ _ b 4 (by omega) (by omega)) cw_X6_59 rfl rfl ⟨Nat.le_of_ble_eq_true rfl, Nat.le_of_ble_eq_true rfl⟩ (Nat.le_of_ble_eq_true rfl) dX6_warm_89 ⟨Nat.le_refl _, Nat.le_refl _⟩ (fun H locs hP hS => ?_)
        refine lv_aload_n hx hb dX6_warm_92 rfl (lv_at hl 2 rfl) ?_
        refine lv_iload_n hx hb dX6_warm_93 rfl (lv_at hl 3 rfl) ?_
        refine md_cVr (As := [.int (nI b)]) (rest := [.int ((upd Z (7 + 5 * b + 2) ((Z (7 + 5 * b + 2)) - (Z 0))) (7 + 5 * b + 4)), .int (nI 4), .int (nI b), .ref (ad 0)]) hx hb hown htg hK hI hS hP hml hl.1 (m6_carried l D ct ad _ _ _ _ b n (zW_upd hw (by omega) (fun _ _ => by omega) (fun _ _ => by omega)) (by omega)) cw_X6_72 rfl rfl ⟨Nat.le_of_ble_eq_true rfl, Nat.le_of_ble_eq_true rfl⟩ (Nat.le_of_ble_eq_true rfl) dX6_warm_94 ⟨Nat.le_refl _, Nat.le_refl _⟩ (fun H locs hP hS => ?_)
        refine lv_iadd hx hb dX6_warm_97 ?_
        refine md_cV0 (As := [.int (nI b), .int (nI 4), .int (((upd Z (7 + 5 * b + 2) ((Z (7 + 5 * b + 2)) - (Z 0))) (7 + 5 * b + 4)) + (carS (upd Z (7 + 5 * b + 2) ((Z (7 + 5 * b + 2)) - (Z 0))) b n))]) (rest := []) hx hb hown htg hK hI hS hP hml hl.1 (m6_put l D ct ad _ _ _ _ b 4 (((upd Z (7 + 5 * b + 2) ((Z (7 + 5 * b + 2)) - (Z 0))) (7 + 5 * b + 4)) + (carS (upd Z (7 + 5 * b + 2) ((Z (7 + 5 * b + 2)) - (Z 0))) b n)) (by omega) (by omega)) cw_X6_32 rfl rfl ⟨Nat.le_of_ble_eq_true rfl, Nat.le_of_ble_eq_true rfl⟩ (Nat.le_of_ble_eq_true rfl) dX6_warm_98 ⟨Nat.le_refl _, Nat.le_refl _⟩ (fun H locs hP hS => ?_)
        refine fr_vret hx hb hr hlocks hK hI hS dX6_warm_101 ?_
        refine fP.eqc (congrArg (fun v9 => mdc ct ad v9 g hs F) (show (warmZ Z b n) = (upd (upd Z (7 + 5 * b + 2) ((Z (7 + 5 * b + 2)) - (Z 0))) (7 + 5 * b + 4) (((upd Z (7 + 5 * b + 2) ((Z (7 + 5 * b + 2)) - (Z 0))) (7 + 5 * b + 4)) + (carS (upd Z (7 + 5 * b + 2) ((Z (7 + 5 * b + 2)) - (Z 0))) b n))) from by first | (exfalso; omega) | (simp only [warmZ, wr1, htZ, c25, Int32.not_lt.mpr c25, c56, c60, Int32.not_lt.mpr c60, decide_true, decide_false, Bool.and_true, Bool.true_and, Bool.and_false, Bool.false_and, Bool.or_true, Bool.true_or, Bool.or_false, Bool.false_or, Bool.and_self, Bool.or_self, if_true, if_false, eq_self, Bool.false_eq_true, Bool.true_eq_false, reduceCtorEq, nI_0, not_true_eq_false, not_false_eq_true, and_true, true_and, and_false, false_and, or_true, true_or, or_false, false_or, and_self, or_self, Int32.add_zero]; done) | (simp [warmZ, wr1, htZ, c25, Int32.not_lt.mpr c25, c56, c60, Int32.not_lt.mpr c60, nI_0]; done) | (simp only [warmZ, wr1, htZ, c25, Int32.not_lt.mpr c25, c56, c60, Int32.not_lt.mpr c60, decide_true, decide_false, Bool.and_true, Bool.true_and, Bool.and_false, Bool.false_and, Bool.or_true, Bool.true_or, Bool.or_false, Bool.false_or, Bool.and_self, Bool.or_self, if_true, if_false, eq_self, Bool.false_eq_true, Bool.true_eq_false, reduceCtorEq, nI_0, not_true_eq_false, not_false_eq_true, and_true, true_and, and_false, false_and, or_true, true_or, or_false, false_or, and_self, or_self, Int32.add_zero]; omega) | (simp [warmZ, wr1, htZ, c25, Int32.not_lt.mpr c25, c56, c60, Int32.not_lt.mpr c60, nI_0]; omega)).symm) ?_
        exact hP
      · refine lv_aload_n hx hb dX6_warm_63 rfl (lv_at hl 2 rfl) ?_
        refine lv_iload_n hx hb dX6_warm_64 rfl (lv_at hl 3 rfl) ?_
        refine lv_iconst (v := nI 2) hx hb dX6_warm_65 (by decide) ?_
        refine md_cVr (As := [.int (nI b), .int (nI 2)]) (rest := [.int (nI 2), .int (nI b), .ref (ad 0)]) hx hb hown htg hK hI hS hP hml hl.1 (m6_by l D ct ad _ _ _ _ b 2 (by omega) (by omega)) cw_X6_59 rfl rfl ⟨Nat.le_of_ble_eq_true rfl, Nat.le_of_ble_eq_true rfl⟩ (Nat.le_of_ble_eq_true rfl) dX6_warm_66 ⟨Nat.le_refl _, Nat.le_refl _⟩ (fun H locs hP hS => ?_)
        refine lv_iload_n hx hb dX6_warm_69 rfl (lv_at hl 1 rfl) ?_
        refine lv_bipush (v := nI 10) hx hb dX6_warm_70 (by decide) ?_
        refine lv_idiv hx hb dX6_warm_72 (by decide) ?_
        refine lv_iadd hx hb dX6_warm_73 ?_
        refine lv_iconst (v := nI 1) hx hb dX6_warm_74 (by decide) ?_
        refine lv_iadd hx hb dX6_warm_75 ?_
        refine lv_goto (tgt := 80) hx hb dX6_warm_76 (by decide) ?_
        refine md_cV0 (As := [.int (nI b), .int (nI 2), .int (((Z (7 + 5 * b + 2)) + (((carS Z b n) - (Z (7 + 5 * b + 0))) / (nI 10))) + (nI 1))]) (rest := []) hx hb hown htg hK hI hS hP hml hl.1 (m6_put l D ct ad _ _ _ _ b 2 (((Z (7 + 5 * b + 2)) + (((carS Z b n) - (Z (7 + 5 * b + 0))) / (nI 10))) + (nI 1)) (by omega) (by omega)) cw_X6_32 rfl rfl ⟨Nat.le_of_ble_eq_true rfl, Nat.le_of_ble_eq_true rfl⟩ (Nat.le_of_ble_eq_true rfl) dX6_warm_80 ⟨Nat.le_refl _, Nat.le_refl _⟩ (fun H locs hP hS => ?_)
        refine lv_aload_n hx hb dX6_warm_83 rfl (lv_at hl 2 rfl) ?_
        refine lv_iload_n hx hb dX6_warm_84 rfl (lv_at hl 3 rfl) ?_
        refine lv_iconst (v := nI 4) hx hb dX6_warm_85 (by decide) ?_
        refine lv_aload_n hx hb dX6_warm_86 rfl (lv_at hl 2 rfl) ?_
        refine lv_iload_n hx hb dX6_warm_87 rfl (lv_at hl 3 rfl) ?_
        refine lv_iconst (v := nI 4) hx hb dX6_warm_88 (by decide) ?_
        refine md_cVr (As := [.int (nI b), .int (nI 4)]) (rest := [.int (nI 4), .int (nI b), .ref (ad 0)]) hx hb hown htg hK hI hS hP hml hl.1 (m6_by l D ct ad _ _ _ _ b 4 (by omega) (by omega)) cw_X6_59 rfl rfl ⟨Nat.le_of_ble_eq_true rfl, Nat.le_of_ble_eq_true rfl⟩ (Nat.le_of_ble_eq_true rfl) dX6_warm_89 ⟨Nat.le_refl _, Nat.le_refl _⟩ (fun H locs hP hS => ?_)
        refine lv_aload_n hx hb dX6_warm_92 rfl (lv_at hl 2 rfl) ?_
        refine lv_iload_n hx hb dX6_warm_93 rfl (lv_at hl 3 rfl) ?_
        refine md_cVr (As := [.int (nI b)]) (rest := [.int ((upd Z (7 + 5 * b + 2) (((Z (7 + 5 * b + 2)) + (((carS Z b n) - (Z (7 + 5 * b + 0))) / (nI 10))) + (nI 1))) (7 + 5 * b + 4)), .int (nI 4), .int (nI b), .ref (ad 0)]) hx hb hown htg hK hI hS hP hml hl.1 (m6_carried l D ct ad _ _ _ _ b n (zW_upd hw (by omega) (fun _ _ => by omega) (fun _ _ => by omega)) (by omega)) cw_X6_72 rfl rfl ⟨Nat.le_of_ble_eq_true rfl, Nat.le_of_ble_eq_true rfl⟩ (Nat.le_of_ble_eq_true rfl) dX6_warm_94 ⟨Nat.le_refl _, Nat.le_refl _⟩ (fun H locs hP hS => ?_)
        refine lv_iadd hx hb dX6_warm_97 ?_
        refine md_cV0 (As := [.int (nI b), .int (nI 4), .int (((upd Z (7 + 5 * b + 2) (((Z (7 + 5 * b + 2)) + (((carS Z b n) - (Z (7 + 5 * b + 0))) / (nI 10))) + (nI 1))) (7 + 5 * b + 4)) + (carS (upd Z (7 + 5 * b + 2) (((Z (7 + 5 * b + 2)) + (((carS Z b n) - (Z (7 + 5 * b + 0))) / (nI 10))) + (nI 1))) b n))]) (rest := []) hx hb hown htg hK hI hS hP hml hl.1 (m6_put l D ct ad _ _ _ _ b 4 (((upd Z (7 + 5 * b + 2) (((Z (7 + 5 * b + 2)) + (((carS Z b n) - (Z (7 + 5 * b + 0))) / (nI 10))) + (nI 1))) (7 + 5 * b + 4)) + (carS (upd Z (7 + 5 * b + 2) (((Z (7 + 5 * b + 2)) + (((carS Z b n) - (Z (7 + 5 * b + 0))) / (nI 10))) + (nI 1))) b n)) (by omega) (by omega)) cw_X6_32 rfl rfl ⟨Nat.le_of_ble_eq_true rfl, Nat.le_of_ble_eq_true rfl⟩ (Nat.le_of_ble_eq_true rfl) dX6_warm_98 ⟨Nat.le_refl _, Nat.le_refl _⟩ (fun H locs hP hS => ?_)
        refine fr_vret hx hb hr hlocks hK hI hS dX6_warm_101 ?_
        refine fP.eqc (congrArg (fun v9 => mdc ct ad v9 g hs F) (show (warmZ Z b n) = (upd (upd Z (7 + 5 * b + 2) (((Z (7 + 5 * b + 2)) + (((carS Z b n) - (Z (7 + 5 * b + 0))) / (nI 10))) + (nI 1))) (7 + 5 * b + 4) (((upd Z (7 + 5 * b + 2) (((Z (7 + 5 * b + 2)) + (((carS Z b n) - (Z (7 + 5 * b + 0))) / (nI 10))) + (nI 1))) (7 + 5 * b + 4)) + (carS (upd Z (7 + 5 * b + 2) (((Z (7 + 5 * b + 2)) + (((carS Z b n) - (Z (7 + 5 * b + 0))) / (nI 10))) + (nI 1))) b n))) from by first | (exfalso; omega) | (simp only [warmZ, wr1, htZ, c25, Int32.not_lt.mpr c25, c56, c60, Int32.not_le.mpr c60, decide_true, decide_false, Bool.and_true, Bool.true_and, Bool.and_false, Bool.false_and, Bool.or_true, Bool.true_or, Bool.or_false, Bool.false_or, Bool.and_self, Bool.or_self, if_true, if_false, eq_self, Bool.false_eq_true, Bool.true_eq_false, reduceCtorEq, nI_0, not_true_eq_false, not_false_eq_true, and_true, true_and, and_false, false_and, or_true, true_or, or_false, false_or, and_self, or_self, Int32.add_zero]; done) | (simp [warmZ, wr1, htZ, c25, Int32.not_lt.mpr c25, c56, c60, Int32.not_le.mpr c60, nI_0]; done) | (simp only [warmZ, wr1, htZ, c25, Int32.not_lt.mpr c25, c56, c60, Int32.not_le.mpr c60, decide_true, decide_false, Bool.and_true, Bool.true_and, Bool.and_false, Bool.false_and, Bool.or_true, Bool.true_or, Bool.or_false, Bool.false_or, Bool.and_self, Bool.or_self, if_true, if_false, eq_self, Bool.false_eq_true, Bool.true_eq_false, reduceCtorEq, nI_0, not_true_eq_false, not_false_eq_true, and_true, true_and, and_false, false_and, or_true, true_or, or_false, false_or, and_self, or_self, Int32.add_zero]; omega) | (simp [warmZ, wr1, htZ, c25, Int32.not_lt.mpr c25, c56, c60, Int32.not_le.mpr c60, nI_0]; omega)).symm) ?_
        exact hP
  · refine lv_iconst (v := nI 0) hx hb dX6_warm_28 (by decide) ?_
    refine lv_goto (tgt := 45) hx hb dX6_warm_29 (by decide) ?_
    refine lv_istore_n (lv' := [(3, .int (nI 0)), (2, .int ((carS Z b n) - (Z (7 + 5 * b + 0)))), (0, .ref (ad 0)), (1, .int (nI b))]) hx hb dX6_warm_45 rfl hl (by decide) rfl (fun ls hl => ?_)
    refine lv_aload_n hx hb dX6_warm_46 rfl (lv_at hl 2 rfl) ?_
    refine lv_iload_n hx hb dX6_warm_47 rfl (lv_at hl 3 rfl) ?_
    refine lv_iconst (v := nI 2) hx hb dX6_warm_48 (by decide) ?_
    refine lv_aload_n hx hb dX6_warm_49 rfl (lv_at hl 2 rfl) ?_
    refine lv_iload_n hx hb dX6_warm_50 rfl (lv_at hl 3 rfl) ?_
    refine lv_iconst (v := nI 1) hx hb dX6_warm_51 (by decide) ?_
    refine md_cVr (As := [.int (nI b), .int (nI 1)]) (rest := [.int (nI 2), .int (nI b), .ref (ad 0)]) hx hb hown htg hK hI hS hP hml hl.1 (m6_by l D ct ad _ _ _ _ b 1 (by omega) (by omega)) cw_X6_59 rfl rfl ⟨Nat.le_of_ble_eq_true rfl, Nat.le_of_ble_eq_true rfl⟩ (Nat.le_of_ble_eq_true rfl) dX6_warm_52 ⟨Nat.le_refl _, Nat.le_refl _⟩ (fun H locs hP hS => ?_)
    refine lv_iconst (v := nI 1) hx hb dX6_warm_55 (by decide) ?_
    refine lv_icmp_ne (tgt := 79) hx hb dX6_warm_56 (by decide) (fun c56 => ?_) (fun c56 => ?_)
    · refine lv_iload_n hx hb dX6_warm_79 rfl (lv_at hl 0 rfl) ?_
      refine md_cV0 (As := [.int (nI b), .int (nI 2), .int (nI 0)]) (rest := []) hx hb hown htg hK hI hS hP hml hl.1 (m6_put l D ct ad _ _ _ _ b 2 (nI 0) (by omega) (by omega)) cw_X6_32 rfl rfl ⟨Nat.le_of_ble_eq_true rfl, Nat.le_of_ble_eq_true rfl⟩ (Nat.le_of_ble_eq_true rfl) dX6_warm_80 ⟨Nat.le_refl _, Nat.le_refl _⟩ (fun H locs hP hS => ?_)
      refine lv_aload_n hx hb dX6_warm_83 rfl (lv_at hl 2 rfl) ?_
      refine lv_iload_n hx hb dX6_warm_84 rfl (lv_at hl 3 rfl) ?_
      refine lv_iconst (v := nI 4) hx hb dX6_warm_85 (by decide) ?_
      refine lv_aload_n hx hb dX6_warm_86 rfl (lv_at hl 2 rfl) ?_
      refine lv_iload_n hx hb dX6_warm_87 rfl (lv_at hl 3 rfl) ?_
      refine lv_iconst (v := nI 4) hx hb dX6_warm_88 (by decide) ?_
      refine md_cVr (As := [.int (nI b), .int (nI 4)]) (rest := [.int (nI 4), .int (nI b), .ref (ad 0)]) hx hb hown htg hK hI hS hP hml hl.1 (m6_by l D ct ad _ _ _ _ b 4 (by omega) (by omega)) cw_X6_59 rfl rfl ⟨Nat.le_of_ble_eq_true rfl, Nat.le_of_ble_eq_true rfl⟩ (Nat.le_of_ble_eq_true rfl) dX6_warm_89 ⟨Nat.le_refl _, Nat.le_refl _⟩ (fun H locs hP hS => ?_)
      refine lv_aload_n hx hb dX6_warm_92 rfl (lv_at hl 2 rfl) ?_
      refine lv_iload_n hx hb dX6_warm_93 rfl (lv_at hl 3 rfl) ?_
      refine md_cVr (As := [.int (nI b)]) (rest := [.int ((upd Z (7 + 5 * b + 2) (nI 0)) (7 + 5 * b + 4)), .int (nI 4), .int (nI b), .ref (ad 0)]) hx hb hown htg hK hI hS hP hml hl.1 (m6_carried l D ct ad _ _ _ _ b n (zW_upd hw (by omega) (fun _ _ => by omega) (fun _ _ => by omega)) (by omega)) cw_X6_72 rfl rfl ⟨Nat.le_of_ble_eq_true rfl, Nat.le_of_ble_eq_true rfl⟩ (Nat.le_of_ble_eq_true rfl) dX6_warm_94 ⟨Nat.le_refl _, Nat.le_refl _⟩ (fun H locs hP hS => ?_)
      refine lv_iadd hx hb dX6_warm_97 ?_
      refine md_cV0 (As := [.int (nI b), .int (nI 4), .int (((upd Z (7 + 5 * b + 2) (nI 0)) (7 + 5 * b + 4)) + (carS (upd Z (7 + 5 * b + 2) (nI 0)) b n))]) (rest := []) hx hb hown htg hK hI hS hP hml hl.1 (m6_put l D ct ad _ _ _ _ b 4 (((upd Z (7 + 5 * b + 2) (nI 0)) (7 + 5 * b + 4)) + (carS (upd Z (7 + 5 * b + 2) (nI 0)) b n)) (by omega) (by omega)) cw_X6_32 rfl rfl ⟨Nat.le_of_ble_eq_true rfl, Nat.le_of_ble_eq_true rfl⟩ (Nat.le_of_ble_eq_true rfl) dX6_warm_98 ⟨Nat.le_refl _, Nat.le_refl _⟩ (fun H locs hP hS => ?_)
      refine fr_vret hx hb hr hlocks hK hI hS dX6_warm_101 ?_
      refine fP.eqc (congrArg (fun v9 => mdc ct ad v9 g hs F) (show (warmZ Z b n) = (upd (upd Z (7 + 5 * b + 2) (nI 0)) (7 + 5 * b + 4) (((upd Z (7 + 5 * b + 2) (nI 0)) (7 + 5 * b + 4)) + (carS (upd Z (7 + 5 * b + 2) (nI 0)) b n))) from by first | (exfalso; omega) | (simp only [warmZ, wr1, htZ, c25, Int32.not_le.mpr c25, c56, decide_true, decide_false, Bool.and_true, Bool.true_and, Bool.and_false, Bool.false_and, Bool.or_true, Bool.true_or, Bool.or_false, Bool.false_or, Bool.and_self, Bool.or_self, if_true, if_false, eq_self, Bool.false_eq_true, Bool.true_eq_false, reduceCtorEq, nI_0, not_true_eq_false, not_false_eq_true, and_true, true_and, and_false, false_and, or_true, true_or, or_false, false_or, and_self, or_self, Int32.add_zero]; done) | (simp [warmZ, wr1, htZ, c25, Int32.not_le.mpr c25, c56, nI_0]; done) | (simp only [warmZ, wr1, htZ, c25, Int32.not_le.mpr c25, c56, decide_true, decide_false, Bool.and_true, Bool.true_and, Bool.and_false, Bool.false_and, Bool.or_true, Bool.true_or, Bool.or_false, Bool.false_or, Bool.and_self, Bool.or_self, if_true, if_false, eq_self, Bool.false_eq_true, Bool.true_eq_false, reduceCtorEq, nI_0, not_true_eq_false, not_false_eq_true, and_true, true_and, and_false, false_and, or_true, true_or, or_false, false_or, and_self, or_self, Int32.add_zero]; omega) | (simp [warmZ, wr1, htZ, c25, Int32.not_le.mpr c25, c56, nI_0]; omega)).symm) ?_
      exact hP
    · refine lv_iload_n hx hb dX6_warm_59 rfl (lv_at hl 1 rfl) ?_
      refine lv_ifleR (tgt := 79) hx hb dX6_warm_60 (by decide) (fun c60 => ?_) (fun c60 => ?_)
      · refine lv_iload_n hx hb dX6_warm_79 rfl (lv_at hl 0 rfl) ?_
        refine md_cV0 (As := [.int (nI b), .int (nI 2), .int (nI 0)]) (rest := []) hx hb hown htg hK hI hS hP hml hl.1 (m6_put l D ct ad _ _ _ _ b 2 (nI 0) (by omega) (by omega)) cw_X6_32 rfl rfl ⟨Nat.le_of_ble_eq_true rfl, Nat.le_of_ble_eq_true rfl⟩ (Nat.le_of_ble_eq_true rfl) dX6_warm_80 ⟨Nat.le_refl _, Nat.le_refl _⟩ (fun H locs hP hS => ?_)
        refine lv_aload_n hx hb dX6_warm_83 rfl (lv_at hl 2 rfl) ?_
        refine lv_iload_n hx hb dX6_warm_84 rfl (lv_at hl 3 rfl) ?_
        refine lv_iconst (v := nI 4) hx hb dX6_warm_85 (by decide) ?_
        refine lv_aload_n hx hb dX6_warm_86 rfl (lv_at hl 2 rfl) ?_
        refine lv_iload_n hx hb dX6_warm_87 rfl (lv_at hl 3 rfl) ?_
        refine lv_iconst (v := nI 4) hx hb dX6_warm_88 (by decide) ?_
        refine md_cVr (As := [.int (nI b), .int (nI 4)]) (rest := [.int (nI 4), .int (nI b), .ref (ad 0)]) hx hb hown htg hK hI hS hP hml hl.1 (m6_by l D ct ad _ _ _ _ b 4 (by omega) (by omega)) cw_X6_59 rfl rfl ⟨Nat.le_of_ble_eq_true rfl, Nat.le_of_ble_eq_true rfl⟩ (Nat.le_of_ble_eq_true rfl) dX6_warm_89 ⟨Nat.le_refl _, Nat.le_refl _⟩ (fun H locs hP hS => ?_)
        refine lv_aload_n hx hb dX6_warm_92 rfl (lv_at hl 2 rfl) ?_
        refine lv_iload_n hx hb dX6_warm_93 rfl (lv_at hl 3 rfl) ?_
        refine md_cVr (As := [.int (nI b)]) (rest := [.int ((upd Z (7 + 5 * b + 2) (nI 0)) (7 + 5 * b + 4)), .int (nI 4), .int (nI b), .ref (ad 0)]) hx hb hown htg hK hI hS hP hml hl.1 (m6_carried l D ct ad _ _ _ _ b n (zW_upd hw (by omega) (fun _ _ => by omega) (fun _ _ => by omega)) (by omega)) cw_X6_72 rfl rfl ⟨Nat.le_of_ble_eq_true rfl, Nat.le_of_ble_eq_true rfl⟩ (Nat.le_of_ble_eq_true rfl) dX6_warm_94 ⟨Nat.le_refl _, Nat.le_refl _⟩ (fun H locs hP hS => ?_)
        refine lv_iadd hx hb dX6_warm_97 ?_
        refine md_cV0 (As := [.int (nI b), .int (nI 4), .int (((upd Z (7 + 5 * b + 2) (nI 0)) (7 + 5 * b + 4)) + (carS (upd Z (7 + 5 * b + 2) (nI 0)) b n))]) (rest := []) hx hb hown htg hK hI hS hP hml hl.1 (m6_put l D ct ad _ _ _ _ b 4 (((upd Z (7 + 5 * b + 2) (nI 0)) (7 + 5 * b + 4)) + (carS (upd Z (7 + 5 * b + 2) (nI 0)) b n)) (by omega) (by omega)) cw_X6_32 rfl rfl ⟨Nat.le_of_ble_eq_true rfl, Nat.le_of_ble_eq_true rfl⟩ (Nat.le_of_ble_eq_true rfl) dX6_warm_98 ⟨Nat.le_refl _, Nat.le_refl _⟩ (fun H locs hP hS => ?_)
        refine fr_vret hx hb hr hlocks hK hI hS dX6_warm_101 ?_
        refine fP.eqc (congrArg (fun v9 => mdc ct ad v9 g hs F) (show (warmZ Z b n) = (upd (upd Z (7 + 5 * b + 2) (nI 0)) (7 + 5 * b + 4) (((upd Z (7 + 5 * b + 2) (nI 0)) (7 + 5 * b + 4)) + (carS (upd Z (7 + 5 * b + 2) (nI 0)) b n))) from by first | (exfalso; omega) | (simp only [warmZ, wr1, htZ, c25, Int32.not_le.mpr c25, c56, c60, Int32.not_lt.mpr c60, decide_true, decide_false, Bool.and_true, Bool.true_and, Bool.and_false, Bool.false_and, Bool.or_true, Bool.true_or, Bool.or_false, Bool.false_or, Bool.and_self, Bool.or_self, if_true, if_false, eq_self, Bool.false_eq_true, Bool.true_eq_false, reduceCtorEq, nI_0, not_true_eq_false, not_false_eq_true, and_true, true_and, and_false, false_and, or_true, true_or, or_false, false_or, and_self, or_self, Int32.add_zero]; done) | (simp [warmZ, wr1, htZ, c25, Int32.not_le.mpr c25, c56, c60, Int32.not_lt.mpr c60, nI_0]; done) | (simp only [warmZ, wr1, htZ, c25, Int32.not_le.mpr c25, c56, c60, Int32.not_lt.mpr c60, decide_true, decide_false, Bool.and_true, Bool.true_and, Bool.and_false, Bool.false_and, Bool.or_true, Bool.true_or, Bool.or_false, Bool.false_or, Bool.and_self, Bool.or_self, if_true, if_false, eq_self, Bool.false_eq_true, Bool.true_eq_false, reduceCtorEq, nI_0, not_true_eq_false, not_false_eq_true, and_true, true_and, and_false, false_and, or_true, true_or, or_false, false_or, and_self, or_self, Int32.add_zero]; omega) | (simp [warmZ, wr1, htZ, c25, Int32.not_le.mpr c25, c56, c60, Int32.not_lt.mpr c60, nI_0]; omega)).symm) ?_
        exact hP
      · refine lv_aload_n hx hb dX6_warm_63 rfl (lv_at hl 2 rfl) ?_
        refine lv_iload_n hx hb dX6_warm_64 rfl (lv_at hl 3 rfl) ?_
        refine lv_iconst (v := nI 2) hx hb dX6_warm_65 (by decide) ?_
        refine md_cVr (As := [.int (nI b), .int (nI 2)]) (rest := [.int (nI 2), .int (nI b), .ref (ad 0)]) hx hb hown htg hK hI hS hP hml hl.1 (m6_by l D ct ad _ _ _ _ b 2 (by omega) (by omega)) cw_X6_59 rfl rfl ⟨Nat.le_of_ble_eq_true rfl, Nat.le_of_ble_eq_true rfl⟩ (Nat.le_of_ble_eq_true rfl) dX6_warm_66 ⟨Nat.le_refl _, Nat.le_refl _⟩ (fun H locs hP hS => ?_)
        refine lv_iload_n hx hb dX6_warm_69 rfl (lv_at hl 1 rfl) ?_
        refine lv_bipush (v := nI 10) hx hb dX6_warm_70 (by decide) ?_
        refine lv_idiv hx hb dX6_warm_72 (by decide) ?_
        refine lv_iadd hx hb dX6_warm_73 ?_
        refine lv_iconst (v := nI 1) hx hb dX6_warm_74 (by decide) ?_
        refine lv_iadd hx hb dX6_warm_75 ?_
        refine lv_goto (tgt := 80) hx hb dX6_warm_76 (by decide) ?_
        refine md_cV0 (As := [.int (nI b), .int (nI 2), .int (((Z (7 + 5 * b + 2)) + (((carS Z b n) - (Z (7 + 5 * b + 0))) / (nI 10))) + (nI 1))]) (rest := []) hx hb hown htg hK hI hS hP hml hl.1 (m6_put l D ct ad _ _ _ _ b 2 (((Z (7 + 5 * b + 2)) + (((carS Z b n) - (Z (7 + 5 * b + 0))) / (nI 10))) + (nI 1)) (by omega) (by omega)) cw_X6_32 rfl rfl ⟨Nat.le_of_ble_eq_true rfl, Nat.le_of_ble_eq_true rfl⟩ (Nat.le_of_ble_eq_true rfl) dX6_warm_80 ⟨Nat.le_refl _, Nat.le_refl _⟩ (fun H locs hP hS => ?_)
        refine lv_aload_n hx hb dX6_warm_83 rfl (lv_at hl 2 rfl) ?_
        refine lv_iload_n hx hb dX6_warm_84 rfl (lv_at hl 3 rfl) ?_
        refine lv_iconst (v := nI 4) hx hb dX6_warm_85 (by decide) ?_
        refine lv_aload_n hx hb dX6_warm_86 rfl (lv_at hl 2 rfl) ?_
        refine lv_iload_n hx hb dX6_warm_87 rfl (lv_at hl 3 rfl) ?_
        refine lv_iconst (v := nI 4) hx hb dX6_warm_88 (by decide) ?_
        refine md_cVr (As := [.int (nI b), .int (nI 4)]) (rest := [.int (nI 4), .int (nI b), .ref (ad 0)]) hx hb hown htg hK hI hS hP hml hl.1 (m6_by l D ct ad _ _ _ _ b 4 (by omega) (by omega)) cw_X6_59 rfl rfl ⟨Nat.le_of_ble_eq_true rfl, Nat.le_of_ble_eq_true rfl⟩ (Nat.le_of_ble_eq_true rfl) dX6_warm_89 ⟨Nat.le_refl _, Nat.le_refl _⟩ (fun H locs hP hS => ?_)
        refine lv_aload_n hx hb dX6_warm_92 rfl (lv_at hl 2 rfl) ?_
        refine lv_iload_n hx hb dX6_warm_93 rfl (lv_at hl 3 rfl) ?_
        refine md_cVr (As := [.int (nI b)]) (rest := [.int ((upd Z (7 + 5 * b + 2) (((Z (7 + 5 * b + 2)) + (((carS Z b n) - (Z (7 + 5 * b + 0))) / (nI 10))) + (nI 1))) (7 + 5 * b + 4)), .int (nI 4), .int (nI b), .ref (ad 0)]) hx hb hown htg hK hI hS hP hml hl.1 (m6_carried l D ct ad _ _ _ _ b n (zW_upd hw (by omega) (fun _ _ => by omega) (fun _ _ => by omega)) (by omega)) cw_X6_72 rfl rfl ⟨Nat.le_of_ble_eq_true rfl, Nat.le_of_ble_eq_true rfl⟩ (Nat.le_of_ble_eq_true rfl) dX6_warm_94 ⟨Nat.le_refl _, Nat.le_refl _⟩ (fun H locs hP hS => ?_)
        refine lv_iadd hx hb dX6_warm_97 ?_
        refine md_cV0 (As := [.int (nI b), .int (nI 4), .int (((upd Z (7 + 5 * b + 2) (((Z (7 + 5 * b + 2)) + (((carS Z b n) - (Z (7 + 5 * b + 0))) / (nI 10))) + (nI 1))) (7 + 5 * b + 4)) + (carS (upd Z (7 + 5 * b + 2) (((Z (7 + 5 * b + 2)) + (((carS Z b n) - (Z (7 + 5 * b + 0))) / (nI 10))) + (nI 1))) b n))]) (rest := []) hx hb hown htg hK hI hS hP hml hl.1 (m6_put l D ct ad _ _ _ _ b 4 (((upd Z (7 + 5 * b + 2) (((Z (7 + 5 * b + 2)) + (((carS Z b n) - (Z (7 + 5 * b + 0))) / (nI 10))) + (nI 1))) (7 + 5 * b + 4)) + (carS (upd Z (7 + 5 * b + 2) (((Z (7 + 5 * b + 2)) + (((carS Z b n) - (Z (7 + 5 * b + 0))) / (nI 10))) + (nI 1))) b n)) (by omega) (by omega)) cw_X6_32 rfl rfl ⟨Nat.le_of_ble_eq_true rfl, Nat.le_of_ble_eq_true rfl⟩ (Nat.le_of_ble_eq_true rfl) dX6_warm_98 ⟨Nat.le_refl _, Nat.le_refl _⟩ (fun H locs hP hS => ?_)
        refine fr_vret hx hb hr hlocks hK hI hS dX6_warm_101 ?_
        refine fP.eqc (congrArg (fun v9 => mdc ct ad v9 g hs F) (show (warmZ Z b n) = (upd (upd Z (7 + 5 * b + 2) (((Z (7 + 5 * b + 2)) + (((carS Z b n) - (Z (7 + 5 * b + 0))) / (nI 10))) + (nI 1))) (7 + 5 * b + 4) (((upd Z (7 + 5 * b + 2) (((Z (7 + 5 * b + 2)) + (((carS Z b n) - (Z (7 + 5 * b + 0))) / (nI 10))) + (nI 1))) (7 + 5 * b + 4)) + (carS (upd Z (7 + 5 * b + 2) (((Z (7 + 5 * b + 2)) + (((carS Z b n) - (Z (7 + 5 * b + 0))) / (nI 10))) + (nI 1))) b n))) from by first | (exfalso; omega) | (simp only [warmZ, wr1, htZ, c25, Int32.not_le.mpr c25, c56, c60, Int32.not_le.mpr c60, decide_true, decide_false, Bool.and_true, Bool.true_and, Bool.and_false, Bool.false_and, Bool.or_true, Bool.true_or, Bool.or_false, Bool.false_or, Bool.and_self, Bool.or_self, if_true, if_false, eq_self, Bool.false_eq_true, Bool.true_eq_false, reduceCtorEq, nI_0, not_true_eq_false, not_false_eq_true, and_true, true_and, and_false, false_and, or_true, true_or, or_false, false_or, and_self, or_self, Int32.add_zero]; done) | (simp [warmZ, wr1, htZ, c25, Int32.not_le.mpr c25, c56, c60, Int32.not_le.mpr c60, nI_0]; done) | (simp only [warmZ, wr1, htZ, c25, Int32.not_le.mpr c25, c56, c60, Int32.not_le.mpr c60, decide_true, decide_false, Bool.and_true, Bool.true_and, Bool.and_false, Bool.false_and, Bool.or_true, Bool.true_or, Bool.or_false, Bool.false_or, Bool.and_self, Bool.or_self, if_true, if_false, eq_self, Bool.false_eq_true, Bool.true_eq_false, reduceCtorEq, nI_0, not_true_eq_false, not_false_eq_true, and_true, true_and, and_false, false_and, or_true, true_or, or_false, false_or, and_self, or_self, Int32.add_zero]; omega) | (simp [warmZ, wr1, htZ, c25, Int32.not_le.mpr c25, c56, c60, Int32.not_le.mpr c60, nI_0]; omega)).symm) ?_
        exact hP
set_option maxRecDepth 100000 in
set_option maxHeartbeats 4000000 in
theorem m6_meter (l : Launch) (D : va_G) (ct : Nat → ClassId) (ad : Nat → Nat) (Z g : Nat → Int32) (hs : Int64) (F : Nat → Nat → Int32) (k : Nat) (n : Nat)  (hw : zW Z n) (hkn : k < n) : FMet l yX6_meter cX6_meter 3 (none : Option Jvm.ClassFile.FieldType) 3 67 D ct 8 ad [.ref (ad 0), .int (nI k)] (mdc ct ad Z g hs F) none (mdc ct ad (meterZ Z k) g hs F) := by
  refine FMet.of (by decide +kernel) (Nat.le_of_ble_eq_true rfl) ?_
  intro p e s m args below meth c ls hx hb hr hml hown hlocks htg hK hI hP hS hl
  have hl : lv_has ls 3 [(0, .ref (ad 0)), (1, .int (nI k))] := hl
  have hn10 := hw.1
  refine lv_aload_n hx hb dX6_meter_0 rfl (lv_at hl 0 rfl) ?_
  refine lv_iload_n hx hb dX6_meter_1 rfl (lv_at hl 1 rfl) ?_
  refine md_cVr (As := [.int (nI k)]) (rest := []) hx hb hown htg hK hI hS hP hml hl.1 (m6_reason l D ct ad _ _ _ _ k n hw (by omega)) cw_X6_66 rfl rfl ⟨Nat.le_of_ble_eq_true rfl, Nat.le_of_ble_eq_true rfl⟩ (Nat.le_of_ble_eq_true rfl) dX6_meter_2 ⟨Nat.le_refl _, Nat.le_refl _⟩ (fun H locs hP hS => ?_)
  have hrl := @rsn_lt Z k
  refine lv_istore_n (lv' := [(2, .int (nI (rsn Z k))), (0, .ref (ad 0)), (1, .int (nI k))]) hx hb dX6_meter_5 rfl hl (by decide) rfl (fun ls hl => ?_)
  refine lv_aload_n hx hb dX6_meter_6 rfl (lv_at hl 1 rfl) ?_
  refine lv_iload_n hx hb dX6_meter_7 rfl (lv_at hl 2 rfl) ?_
  refine lv_bipush (v := nI 6) hx hb dX6_meter_8 (by decide) ?_
  refine lv_aload_n hx hb dX6_meter_10 rfl (lv_at hl 1 rfl) ?_
  refine lv_iload_n hx hb dX6_meter_11 rfl (lv_at hl 2 rfl) ?_
  refine lv_bipush (v := nI 6) hx hb dX6_meter_12 (by decide) ?_
  refine md_cVr (As := [.int (nI k), .int (nI 6)]) (rest := [.int (nI 6), .int (nI k), .ref (ad 0)]) hx hb hown htg hK hI hS hP hml hl.1 (m6_of l D ct ad _ _ _ _ k 6 (by omega) (by omega)) cw_X6_47 rfl rfl ⟨Nat.le_of_ble_eq_true rfl, Nat.le_of_ble_eq_true rfl⟩ (Nat.le_of_ble_eq_true rfl) dX6_meter_14 ⟨Nat.le_refl _, Nat.le_refl _⟩ (fun H locs hP hS => ?_)
  refine lv_iload_n hx hb dX6_meter_17 rfl (lv_at hl 0 rfl) ?_
  refine lv_ifneN (tgt := 30) hx hb (by omega) dX6_meter_18 (by decide) (fun c18 => ?_) (fun c18 => ?_)
  · refine lv_iconst (v := nI 0) hx hb dX6_meter_30 (by decide) ?_
    refine lv_iadd hx hb dX6_meter_31 ?_
    refine md_cV0 (As := [.int (nI k), .int (nI 6), .int ((Z (39 + 8 * k + 6)) + (nI 0))]) (rest := []) hx hb hown htg hK hI hS hP hml hl.1 (m6_lay l D ct ad _ _ _ _ k 6 ((Z (39 + 8 * k + 6)) + (nI 0)) (by omega) (by omega)) cw_X6_78 rfl rfl ⟨Nat.le_of_ble_eq_true rfl, Nat.le_of_ble_eq_true rfl⟩ (Nat.le_of_ble_eq_true rfl) dX6_meter_32 ⟨Nat.le_refl _, Nat.le_refl _⟩ (fun H locs hP hS => ?_)
    refine lv_aload_n hx hb dX6_meter_35 rfl (lv_at hl 1 rfl) ?_
    refine lv_iload_n hx hb dX6_meter_36 rfl (lv_at hl 2 rfl) ?_
    refine lv_bipush (v := nI 7) hx hb dX6_meter_37 (by decide) ?_
    refine lv_aload_n hx hb dX6_meter_39 rfl (lv_at hl 1 rfl) ?_
    refine lv_iload_n hx hb dX6_meter_40 rfl (lv_at hl 2 rfl) ?_
    refine lv_bipush (v := nI 7) hx hb dX6_meter_41 (by decide) ?_
    refine md_cVr (As := [.int (nI k), .int (nI 7)]) (rest := [.int (nI 7), .int (nI k), .ref (ad 0)]) hx hb hown htg hK hI hS hP hml hl.1 (m6_of l D ct ad _ _ _ _ k 7 (by omega) (by omega)) cw_X6_47 rfl rfl ⟨Nat.le_of_ble_eq_true rfl, Nat.le_of_ble_eq_true rfl⟩ (Nat.le_of_ble_eq_true rfl) dX6_meter_43 ⟨Nat.le_refl _, Nat.le_refl _⟩ (fun H locs hP hS => ?_)
    refine lv_iload_n hx hb dX6_meter_46 rfl (lv_at hl 0 rfl) ?_
    refine lv_iconst (v := nI 1) hx hb dX6_meter_47 (by decide) ?_
    refine lv_icmp_leN (tgt := 55) hx hb (by omega) (by omega) dX6_meter_48 (by decide) (fun c48 => ?_) (fun c48 => ?_)
    · refine lv_iconst (v := nI 0) hx hb dX6_meter_55 (by decide) ?_
      refine lv_iadd hx hb dX6_meter_56 ?_
      refine md_cV0 (As := [.int (nI k), .int (nI 7), .int (((upd Z (39 + 8 * k + 6) ((Z (39 + 8 * k + 6)) + (nI 0))) (39 + 8 * k + 7)) + (nI 0))]) (rest := []) hx hb hown htg hK hI hS hP hml hl.1 (m6_lay l D ct ad _ _ _ _ k 7 (((upd Z (39 + 8 * k + 6) ((Z (39 + 8 * k + 6)) + (nI 0))) (39 + 8 * k + 7)) + (nI 0)) (by omega) (by omega)) cw_X6_78 rfl rfl ⟨Nat.le_of_ble_eq_true rfl, Nat.le_of_ble_eq_true rfl⟩ (Nat.le_of_ble_eq_true rfl) dX6_meter_57 ⟨Nat.le_refl _, Nat.le_refl _⟩ (fun H locs hP hS => ?_)
      refine lv_aload_n hx hb dX6_meter_60 rfl (lv_at hl 1 rfl) ?_
      refine md_g1 hx hb hown htg hK hP dX6_meter_61 ?_
      refine lv_bipush (v := nI 6) hx hb dX6_meter_64 (by decide) ?_
      refine lv_dup2_11 hx hb dX6_meter_66 rfl rfl ?_
      refine md_l1 hx hb hK hP (by omega) dX6_meter_67 ?_
      refine lv_iload_n hx hb dX6_meter_68 rfl (lv_at hl 0 rfl) ?_
      refine lv_ifneN (tgt := 76) hx hb (by omega) dX6_meter_69 (by decide) (fun c69 => ?_) (fun c69 => ?_)
      · refine lv_iconst (v := nI 0) hx hb dX6_meter_76 (by decide) ?_
        refine lv_iadd hx hb dX6_meter_77 ?_
        refine md_s1 hx hb hK hI hS hP (by omega) dX6_meter_78 (fun H locs hP hS => ?_)
        refine fr_vret hx hb hr hlocks hK hI hS dX6_meter_79 ?_
        refine fP.eqc (congrArg (fun v9 => mdc ct ad v9 g hs F) (show (meterZ Z k) = (upd (upd (upd Z (39 + 8 * k + 6) ((Z (39 + 8 * k + 6)) + (nI 0))) (39 + 8 * k + 7) (((upd Z (39 + 8 * k + 6) ((Z (39 + 8 * k + 6)) + (nI 0))) (39 + 8 * k + 7)) + (nI 0))) 6 (((upd (upd Z (39 + 8 * k + 6) ((Z (39 + 8 * k + 6)) + (nI 0))) (39 + 8 * k + 7) (((upd Z (39 + 8 * k + 6) ((Z (39 + 8 * k + 6)) + (nI 0))) (39 + 8 * k + 7)) + (nI 0))) 6) + (nI 0))) from by first | (exfalso; omega) | (simp only [meterZ, mt2, mt1, c18, c48, Nat.not_lt.mpr c48, c69, decide_true, decide_false, Bool.and_true, Bool.true_and, Bool.and_false, Bool.false_and, Bool.or_true, Bool.true_or, Bool.or_false, Bool.false_or, Bool.and_self, Bool.or_self, if_true, if_false, eq_self, Bool.false_eq_true, Bool.true_eq_false, reduceCtorEq, nI_0, not_true_eq_false, not_false_eq_true, and_true, true_and, and_false, false_and, or_true, true_or, or_false, false_or, and_self, or_self, Int32.add_zero]; done) | (simp [meterZ, mt2, mt1, c18, c48, Nat.not_lt.mpr c48, c69, nI_0]; done) | (simp only [meterZ, mt2, mt1, c18, c48, Nat.not_lt.mpr c48, c69, decide_true, decide_false, Bool.and_true, Bool.true_and, Bool.and_false, Bool.false_and, Bool.or_true, Bool.true_or, Bool.or_false, Bool.false_or, Bool.and_self, Bool.or_self, if_true, if_false, eq_self, Bool.false_eq_true, Bool.true_eq_false, reduceCtorEq, nI_0, not_true_eq_false, not_false_eq_true, and_true, true_and, and_false, false_and, or_true, true_or, or_false, false_or, and_self, or_self, Int32.add_zero]; omega) | (simp [meterZ, mt2, mt1, c18, c48, Nat.not_lt.mpr c48, c69, nI_0]; omega)).symm) ?_
        exact hP
      · refine lv_iconst (v := nI 1) hx hb dX6_meter_72 (by decide) ?_
        refine lv_goto (tgt := 77) hx hb dX6_meter_73 (by decide) ?_
        refine lv_iadd hx hb dX6_meter_77 ?_
        refine md_s1 hx hb hK hI hS hP (by omega) dX6_meter_78 (fun H locs hP hS => ?_)
        refine fr_vret hx hb hr hlocks hK hI hS dX6_meter_79 ?_
        refine fP.eqc (congrArg (fun v9 => mdc ct ad v9 g hs F) (show (meterZ Z k) = (upd (upd (upd Z (39 + 8 * k + 6) ((Z (39 + 8 * k + 6)) + (nI 0))) (39 + 8 * k + 7) (((upd Z (39 + 8 * k + 6) ((Z (39 + 8 * k + 6)) + (nI 0))) (39 + 8 * k + 7)) + (nI 0))) 6 (((upd (upd Z (39 + 8 * k + 6) ((Z (39 + 8 * k + 6)) + (nI 0))) (39 + 8 * k + 7) (((upd Z (39 + 8 * k + 6) ((Z (39 + 8 * k + 6)) + (nI 0))) (39 + 8 * k + 7)) + (nI 0))) 6) + (nI 1))) from by first | (exfalso; omega) | (simp only [meterZ, mt2, mt1, c18, c48, Nat.not_lt.mpr c48, c69, decide_true, decide_false, Bool.and_true, Bool.true_and, Bool.and_false, Bool.false_and, Bool.or_true, Bool.true_or, Bool.or_false, Bool.false_or, Bool.and_self, Bool.or_self, if_true, if_false, eq_self, Bool.false_eq_true, Bool.true_eq_false, reduceCtorEq, nI_0, not_true_eq_false, not_false_eq_true, and_true, true_and, and_false, false_and, or_true, true_or, or_false, false_or, and_self, or_self, Int32.add_zero]; done) | (simp [meterZ, mt2, mt1, c18, c48, Nat.not_lt.mpr c48, c69, nI_0]; done) | (simp only [meterZ, mt2, mt1, c18, c48, Nat.not_lt.mpr c48, c69, decide_true, decide_false, Bool.and_true, Bool.true_and, Bool.and_false, Bool.false_and, Bool.or_true, Bool.true_or, Bool.or_false, Bool.false_or, Bool.and_self, Bool.or_self, if_true, if_false, eq_self, Bool.false_eq_true, Bool.true_eq_false, reduceCtorEq, nI_0, not_true_eq_false, not_false_eq_true, and_true, true_and, and_false, false_and, or_true, true_or, or_false, false_or, and_self, or_self, Int32.add_zero]; omega) | (simp [meterZ, mt2, mt1, c18, c48, Nat.not_lt.mpr c48, c69, nI_0]; omega)).symm) ?_
        exact hP
    · refine lv_iconst (v := nI 1) hx hb dX6_meter_51 (by decide) ?_
      refine lv_goto (tgt := 56) hx hb dX6_meter_52 (by decide) ?_
      refine lv_iadd hx hb dX6_meter_56 ?_
      refine md_cV0 (As := [.int (nI k), .int (nI 7), .int (((upd Z (39 + 8 * k + 6) ((Z (39 + 8 * k + 6)) + (nI 0))) (39 + 8 * k + 7)) + (nI 1))]) (rest := []) hx hb hown htg hK hI hS hP hml hl.1 (m6_lay l D ct ad _ _ _ _ k 7 (((upd Z (39 + 8 * k + 6) ((Z (39 + 8 * k + 6)) + (nI 0))) (39 + 8 * k + 7)) + (nI 1)) (by omega) (by omega)) cw_X6_78 rfl rfl ⟨Nat.le_of_ble_eq_true rfl, Nat.le_of_ble_eq_true rfl⟩ (Nat.le_of_ble_eq_true rfl) dX6_meter_57 ⟨Nat.le_refl _, Nat.le_refl _⟩ (fun H locs hP hS => ?_)
      refine lv_aload_n hx hb dX6_meter_60 rfl (lv_at hl 1 rfl) ?_
      refine md_g1 hx hb hown htg hK hP dX6_meter_61 ?_
      refine lv_bipush (v := nI 6) hx hb dX6_meter_64 (by decide) ?_
      refine lv_dup2_11 hx hb dX6_meter_66 rfl rfl ?_
      refine md_l1 hx hb hK hP (by omega) dX6_meter_67 ?_
      refine lv_iload_n hx hb dX6_meter_68 rfl (lv_at hl 0 rfl) ?_
      refine lv_ifneN (tgt := 76) hx hb (by omega) dX6_meter_69 (by decide) (fun c69 => ?_) (fun c69 => ?_)
      · refine lv_iconst (v := nI 0) hx hb dX6_meter_76 (by decide) ?_
        refine lv_iadd hx hb dX6_meter_77 ?_
        refine md_s1 hx hb hK hI hS hP (by omega) dX6_meter_78 (fun H locs hP hS => ?_)
        refine fr_vret hx hb hr hlocks hK hI hS dX6_meter_79 ?_
        refine fP.eqc (congrArg (fun v9 => mdc ct ad v9 g hs F) (show (meterZ Z k) = (upd (upd (upd Z (39 + 8 * k + 6) ((Z (39 + 8 * k + 6)) + (nI 0))) (39 + 8 * k + 7) (((upd Z (39 + 8 * k + 6) ((Z (39 + 8 * k + 6)) + (nI 0))) (39 + 8 * k + 7)) + (nI 1))) 6 (((upd (upd Z (39 + 8 * k + 6) ((Z (39 + 8 * k + 6)) + (nI 0))) (39 + 8 * k + 7) (((upd Z (39 + 8 * k + 6) ((Z (39 + 8 * k + 6)) + (nI 0))) (39 + 8 * k + 7)) + (nI 1))) 6) + (nI 0))) from by first | (exfalso; omega) | (simp only [meterZ, mt2, mt1, c18, c48, Nat.not_le.mpr c48, c69, decide_true, decide_false, Bool.and_true, Bool.true_and, Bool.and_false, Bool.false_and, Bool.or_true, Bool.true_or, Bool.or_false, Bool.false_or, Bool.and_self, Bool.or_self, if_true, if_false, eq_self, Bool.false_eq_true, Bool.true_eq_false, reduceCtorEq, nI_0, not_true_eq_false, not_false_eq_true, and_true, true_and, and_false, false_and, or_true, true_or, or_false, false_or, and_self, or_self, Int32.add_zero]; done) | (simp [meterZ, mt2, mt1, c18, c48, Nat.not_le.mpr c48, c69, nI_0]; done) | (simp only [meterZ, mt2, mt1, c18, c48, Nat.not_le.mpr c48, c69, decide_true, decide_false, Bool.and_true, Bool.true_and, Bool.and_false, Bool.false_and, Bool.or_true, Bool.true_or, Bool.or_false, Bool.false_or, Bool.and_self, Bool.or_self, if_true, if_false, eq_self, Bool.false_eq_true, Bool.true_eq_false, reduceCtorEq, nI_0, not_true_eq_false, not_false_eq_true, and_true, true_and, and_false, false_and, or_true, true_or, or_false, false_or, and_self, or_self, Int32.add_zero]; omega) | (simp [meterZ, mt2, mt1, c18, c48, Nat.not_le.mpr c48, c69, nI_0]; omega)).symm) ?_
        exact hP
      · refine lv_iconst (v := nI 1) hx hb dX6_meter_72 (by decide) ?_
        refine lv_goto (tgt := 77) hx hb dX6_meter_73 (by decide) ?_
        refine lv_iadd hx hb dX6_meter_77 ?_
        refine md_s1 hx hb hK hI hS hP (by omega) dX6_meter_78 (fun H locs hP hS => ?_)
        refine fr_vret hx hb hr hlocks hK hI hS dX6_meter_79 ?_
        refine fP.eqc (congrArg (fun v9 => mdc ct ad v9 g hs F) (show (meterZ Z k) = (upd (upd (upd Z (39 + 8 * k + 6) ((Z (39 + 8 * k + 6)) + (nI 0))) (39 + 8 * k + 7) (((upd Z (39 + 8 * k + 6) ((Z (39 + 8 * k + 6)) + (nI 0))) (39 + 8 * k + 7)) + (nI 1))) 6 (((upd (upd Z (39 + 8 * k + 6) ((Z (39 + 8 * k + 6)) + (nI 0))) (39 + 8 * k + 7) (((upd Z (39 + 8 * k + 6) ((Z (39 + 8 * k + 6)) + (nI 0))) (39 + 8 * k + 7)) + (nI 1))) 6) + (nI 1))) from by first | (exfalso; omega) | (simp only [meterZ, mt2, mt1, c18, c48, Nat.not_le.mpr c48, c69, decide_true, decide_false, Bool.and_true, Bool.true_and, Bool.and_false, Bool.false_and, Bool.or_true, Bool.true_or, Bool.or_false, Bool.false_or, Bool.and_self, Bool.or_self, if_true, if_false, eq_self, Bool.false_eq_true, Bool.true_eq_false, reduceCtorEq, nI_0, not_true_eq_false, not_false_eq_true, and_true, true_and, and_false, false_and, or_true, true_or, or_false, false_or, and_self, or_self, Int32.add_zero]; done) | (simp [meterZ, mt2, mt1, c18, c48, Nat.not_le.mpr c48, c69, nI_0]; done) | (simp only [meterZ, mt2, mt1, c18, c48, Nat.not_le.mpr c48, c69, decide_true, decide_false, Bool.and_true, Bool.true_and, Bool.and_false, Bool.false_and, Bool.or_true, Bool.true_or, Bool.or_false, Bool.false_or, Bool.and_self, Bool.or_self, if_true, if_false, eq_self, Bool.false_eq_true, Bool.true_eq_false, reduceCtorEq, nI_0, not_true_eq_false, not_false_eq_true, and_true, true_and, and_false, false_and, or_true, true_or, or_false, false_or, and_self, or_self, Int32.add_zero]; omega) | (simp [meterZ, mt2, mt1, c18, c48, Nat.not_le.mpr c48, c69, nI_0]; omega)).symm) ?_
        exact hP
  · refine lv_aload_n hx hb dX6_meter_21 rfl (lv_at hl 1 rfl) ?_
    refine lv_iload_n hx hb dX6_meter_22 rfl (lv_at hl 2 rfl) ?_
    refine lv_iconst (v := nI 0) hx hb dX6_meter_23 (by decide) ?_
    refine md_cVr (As := [.int (nI k), .int (nI 0)]) (rest := [.int (Z (39 + 8 * k + 6)), .int (nI 6), .int (nI k), .ref (ad 0)]) hx hb hown htg hK hI hS hP hml hl.1 (m6_of l D ct ad _ _ _ _ k 0 (by omega) (by omega)) cw_X6_47 rfl rfl ⟨Nat.le_of_ble_eq_true rfl, Nat.le_of_ble_eq_true rfl⟩ (Nat.le_of_ble_eq_true rfl) dX6_meter_24 ⟨Nat.le_refl _, Nat.le_refl _⟩ (fun H locs hP hS => ?_)
    refine lv_goto (tgt := 31) hx hb dX6_meter_27 (by decide) ?_
    refine lv_iadd hx hb dX6_meter_31 ?_
    refine md_cV0 (As := [.int (nI k), .int (nI 6), .int ((Z (39 + 8 * k + 6)) + (Z (39 + 8 * k + 0)))]) (rest := []) hx hb hown htg hK hI hS hP hml hl.1 (m6_lay l D ct ad _ _ _ _ k 6 ((Z (39 + 8 * k + 6)) + (Z (39 + 8 * k + 0))) (by omega) (by omega)) cw_X6_78 rfl rfl ⟨Nat.le_of_ble_eq_true rfl, Nat.le_of_ble_eq_true rfl⟩ (Nat.le_of_ble_eq_true rfl) dX6_meter_32 ⟨Nat.le_refl _, Nat.le_refl _⟩ (fun H locs hP hS => ?_)
    refine lv_aload_n hx hb dX6_meter_35 rfl (lv_at hl 1 rfl) ?_
    refine lv_iload_n hx hb dX6_meter_36 rfl (lv_at hl 2 rfl) ?_
    refine lv_bipush (v := nI 7) hx hb dX6_meter_37 (by decide) ?_
    refine lv_aload_n hx hb dX6_meter_39 rfl (lv_at hl 1 rfl) ?_
    refine lv_iload_n hx hb dX6_meter_40 rfl (lv_at hl 2 rfl) ?_
    refine lv_bipush (v := nI 7) hx hb dX6_meter_41 (by decide) ?_
    refine md_cVr (As := [.int (nI k), .int (nI 7)]) (rest := [.int (nI 7), .int (nI k), .ref (ad 0)]) hx hb hown htg hK hI hS hP hml hl.1 (m6_of l D ct ad _ _ _ _ k 7 (by omega) (by omega)) cw_X6_47 rfl rfl ⟨Nat.le_of_ble_eq_true rfl, Nat.le_of_ble_eq_true rfl⟩ (Nat.le_of_ble_eq_true rfl) dX6_meter_43 ⟨Nat.le_refl _, Nat.le_refl _⟩ (fun H locs hP hS => ?_)
    refine lv_iload_n hx hb dX6_meter_46 rfl (lv_at hl 0 rfl) ?_
    refine lv_iconst (v := nI 1) hx hb dX6_meter_47 (by decide) ?_
    refine lv_icmp_leN (tgt := 55) hx hb (by omega) (by omega) dX6_meter_48 (by decide) (fun c48 => ?_) (fun c48 => ?_)
    · refine lv_iconst (v := nI 0) hx hb dX6_meter_55 (by decide) ?_
      refine lv_iadd hx hb dX6_meter_56 ?_
      refine md_cV0 (As := [.int (nI k), .int (nI 7), .int (((upd Z (39 + 8 * k + 6) ((Z (39 + 8 * k + 6)) + (Z (39 + 8 * k + 0)))) (39 + 8 * k + 7)) + (nI 0))]) (rest := []) hx hb hown htg hK hI hS hP hml hl.1 (m6_lay l D ct ad _ _ _ _ k 7 (((upd Z (39 + 8 * k + 6) ((Z (39 + 8 * k + 6)) + (Z (39 + 8 * k + 0)))) (39 + 8 * k + 7)) + (nI 0)) (by omega) (by omega)) cw_X6_78 rfl rfl ⟨Nat.le_of_ble_eq_true rfl, Nat.le_of_ble_eq_true rfl⟩ (Nat.le_of_ble_eq_true rfl) dX6_meter_57 ⟨Nat.le_refl _, Nat.le_refl _⟩ (fun H locs hP hS => ?_)
      refine lv_aload_n hx hb dX6_meter_60 rfl (lv_at hl 1 rfl) ?_
      refine md_g1 hx hb hown htg hK hP dX6_meter_61 ?_
      refine lv_bipush (v := nI 6) hx hb dX6_meter_64 (by decide) ?_
      refine lv_dup2_11 hx hb dX6_meter_66 rfl rfl ?_
      refine md_l1 hx hb hK hP (by omega) dX6_meter_67 ?_
      refine lv_iload_n hx hb dX6_meter_68 rfl (lv_at hl 0 rfl) ?_
      refine lv_ifneN (tgt := 76) hx hb (by omega) dX6_meter_69 (by decide) (fun c69 => ?_) (fun c69 => ?_)
      · refine lv_iconst (v := nI 0) hx hb dX6_meter_76 (by decide) ?_
        refine lv_iadd hx hb dX6_meter_77 ?_
        refine md_s1 hx hb hK hI hS hP (by omega) dX6_meter_78 (fun H locs hP hS => ?_)
        refine fr_vret hx hb hr hlocks hK hI hS dX6_meter_79 ?_
        refine fP.eqc (congrArg (fun v9 => mdc ct ad v9 g hs F) (show (meterZ Z k) = (upd (upd (upd Z (39 + 8 * k + 6) ((Z (39 + 8 * k + 6)) + (Z (39 + 8 * k + 0)))) (39 + 8 * k + 7) (((upd Z (39 + 8 * k + 6) ((Z (39 + 8 * k + 6)) + (Z (39 + 8 * k + 0)))) (39 + 8 * k + 7)) + (nI 0))) 6 (((upd (upd Z (39 + 8 * k + 6) ((Z (39 + 8 * k + 6)) + (Z (39 + 8 * k + 0)))) (39 + 8 * k + 7) (((upd Z (39 + 8 * k + 6) ((Z (39 + 8 * k + 6)) + (Z (39 + 8 * k + 0)))) (39 + 8 * k + 7)) + (nI 0))) 6) + (nI 0))) from by first | (exfalso; omega) | (simp only [meterZ, mt2, mt1, c18, c48, Nat.not_lt.mpr c48, c69, decide_true, decide_false, Bool.and_true, Bool.true_and, Bool.and_false, Bool.false_and, Bool.or_true, Bool.true_or, Bool.or_false, Bool.false_or, Bool.and_self, Bool.or_self, if_true, if_false, eq_self, Bool.false_eq_true, Bool.true_eq_false, reduceCtorEq, nI_0, not_true_eq_false, not_false_eq_true, and_true, true_and, and_false, false_and, or_true, true_or, or_false, false_or, and_self, or_self, Int32.add_zero]; done) | (simp [meterZ, mt2, mt1, c18, c48, Nat.not_lt.mpr c48, c69, nI_0]; done) | (simp only [meterZ, mt2, mt1, c18, c48, Nat.not_lt.mpr c48, c69, decide_true, decide_false, Bool.and_true, Bool.true_and, Bool.and_false, Bool.false_and, Bool.or_true, Bool.true_or, Bool.or_false, Bool.false_or, Bool.and_self, Bool.or_self, if_true, if_false, eq_self, Bool.false_eq_true, Bool.true_eq_false, reduceCtorEq, nI_0, not_true_eq_false, not_false_eq_true, and_true, true_and, and_false, false_and, or_true, true_or, or_false, false_or, and_self, or_self, Int32.add_zero]; omega) | (simp [meterZ, mt2, mt1, c18, c48, Nat.not_lt.mpr c48, c69, nI_0]; omega)).symm) ?_
        exact hP
      · refine lv_iconst (v := nI 1) hx hb dX6_meter_72 (by decide) ?_
        refine lv_goto (tgt := 77) hx hb dX6_meter_73 (by decide) ?_
        refine lv_iadd hx hb dX6_meter_77 ?_
        refine md_s1 hx hb hK hI hS hP (by omega) dX6_meter_78 (fun H locs hP hS => ?_)
        refine fr_vret hx hb hr hlocks hK hI hS dX6_meter_79 ?_
        refine fP.eqc (congrArg (fun v9 => mdc ct ad v9 g hs F) (show (meterZ Z k) = (upd (upd (upd Z (39 + 8 * k + 6) ((Z (39 + 8 * k + 6)) + (Z (39 + 8 * k + 0)))) (39 + 8 * k + 7) (((upd Z (39 + 8 * k + 6) ((Z (39 + 8 * k + 6)) + (Z (39 + 8 * k + 0)))) (39 + 8 * k + 7)) + (nI 0))) 6 (((upd (upd Z (39 + 8 * k + 6) ((Z (39 + 8 * k + 6)) + (Z (39 + 8 * k + 0)))) (39 + 8 * k + 7) (((upd Z (39 + 8 * k + 6) ((Z (39 + 8 * k + 6)) + (Z (39 + 8 * k + 0)))) (39 + 8 * k + 7)) + (nI 0))) 6) + (nI 1))) from by first | (exfalso; omega) | (simp only [meterZ, mt2, mt1, c18, c48, Nat.not_lt.mpr c48, c69, decide_true, decide_false, Bool.and_true, Bool.true_and, Bool.and_false, Bool.false_and, Bool.or_true, Bool.true_or, Bool.or_false, Bool.false_or, Bool.and_self, Bool.or_self, if_true, if_false, eq_self, Bool.false_eq_true, Bool.true_eq_false, reduceCtorEq, nI_0, not_true_eq_false, not_false_eq_true, and_true, true_and, and_false, false_and, or_true, true_or, or_false, false_or, and_self, or_self, Int32.add_zero]; done) | (simp [meterZ, mt2, mt1, c18, c48, Nat.not_lt.mpr c48, c69, nI_0]; done) | (simp only [meterZ, mt2, mt1, c18, c48, Nat.not_lt.mpr c48, c69, decide_true, decide_false, Bool.and_true, Bool.true_and, Bool.and_false, Bool.false_and, Bool.or_true, Bool.true_or, Bool.or_false, Bool.false_or, Bool.and_self, Bool.or_self, if_true, if_false, eq_self, Bool.false_eq_true, Bool.true_eq_false, reduceCtorEq, nI_0, not_true_eq_false, not_false_eq_true, and_true, true_and, and_false, false_and, or_true, true_or, or_false, false_or, and_self, or_self, Int32.add_zero]; omega) | (simp [meterZ, mt2, mt1, c18, c48, Nat.not_lt.mpr c48, c69, nI_0]; omega)).symm) ?_
        exact hP
    · refine lv_iconst (v := nI 1) hx hb dX6_meter_51 (by decide) ?_
      refine lv_goto (tgt := 56) hx hb dX6_meter_52 (by decide) ?_
      refine lv_iadd hx hb dX6_meter_56 ?_
      refine md_cV0 (As := [.int (nI k), .int (nI 7), .int (((upd Z (39 + 8 * k + 6) ((Z (39 + 8 * k + 6)) + (Z (39 + 8 * k + 0)))) (39 + 8 * k + 7)) + (nI 1))]) (rest := []) hx hb hown htg hK hI hS hP hml hl.1 (m6_lay l D ct ad _ _ _ _ k 7 (((upd Z (39 + 8 * k + 6) ((Z (39 + 8 * k + 6)) + (Z (39 + 8 * k + 0)))) (39 + 8 * k + 7)) + (nI 1)) (by omega) (by omega)) cw_X6_78 rfl rfl ⟨Nat.le_of_ble_eq_true rfl, Nat.le_of_ble_eq_true rfl⟩ (Nat.le_of_ble_eq_true rfl) dX6_meter_57 ⟨Nat.le_refl _, Nat.le_refl _⟩ (fun H locs hP hS => ?_)
      refine lv_aload_n hx hb dX6_meter_60 rfl (lv_at hl 1 rfl) ?_
      refine md_g1 hx hb hown htg hK hP dX6_meter_61 ?_
      refine lv_bipush (v := nI 6) hx hb dX6_meter_64 (by decide) ?_
      refine lv_dup2_11 hx hb dX6_meter_66 rfl rfl ?_
      refine md_l1 hx hb hK hP (by omega) dX6_meter_67 ?_
      refine lv_iload_n hx hb dX6_meter_68 rfl (lv_at hl 0 rfl) ?_
      refine lv_ifneN (tgt := 76) hx hb (by omega) dX6_meter_69 (by decide) (fun c69 => ?_) (fun c69 => ?_)
      · refine lv_iconst (v := nI 0) hx hb dX6_meter_76 (by decide) ?_
        refine lv_iadd hx hb dX6_meter_77 ?_
        refine md_s1 hx hb hK hI hS hP (by omega) dX6_meter_78 (fun H locs hP hS => ?_)
        refine fr_vret hx hb hr hlocks hK hI hS dX6_meter_79 ?_
        refine fP.eqc (congrArg (fun v9 => mdc ct ad v9 g hs F) (show (meterZ Z k) = (upd (upd (upd Z (39 + 8 * k + 6) ((Z (39 + 8 * k + 6)) + (Z (39 + 8 * k + 0)))) (39 + 8 * k + 7) (((upd Z (39 + 8 * k + 6) ((Z (39 + 8 * k + 6)) + (Z (39 + 8 * k + 0)))) (39 + 8 * k + 7)) + (nI 1))) 6 (((upd (upd Z (39 + 8 * k + 6) ((Z (39 + 8 * k + 6)) + (Z (39 + 8 * k + 0)))) (39 + 8 * k + 7) (((upd Z (39 + 8 * k + 6) ((Z (39 + 8 * k + 6)) + (Z (39 + 8 * k + 0)))) (39 + 8 * k + 7)) + (nI 1))) 6) + (nI 0))) from by first | (exfalso; omega) | (simp only [meterZ, mt2, mt1, c18, c48, Nat.not_le.mpr c48, c69, decide_true, decide_false, Bool.and_true, Bool.true_and, Bool.and_false, Bool.false_and, Bool.or_true, Bool.true_or, Bool.or_false, Bool.false_or, Bool.and_self, Bool.or_self, if_true, if_false, eq_self, Bool.false_eq_true, Bool.true_eq_false, reduceCtorEq, nI_0, not_true_eq_false, not_false_eq_true, and_true, true_and, and_false, false_and, or_true, true_or, or_false, false_or, and_self, or_self, Int32.add_zero]; done) | (simp [meterZ, mt2, mt1, c18, c48, Nat.not_le.mpr c48, c69, nI_0]; done) | (simp only [meterZ, mt2, mt1, c18, c48, Nat.not_le.mpr c48, c69, decide_true, decide_false, Bool.and_true, Bool.true_and, Bool.and_false, Bool.false_and, Bool.or_true, Bool.true_or, Bool.or_false, Bool.false_or, Bool.and_self, Bool.or_self, if_true, if_false, eq_self, Bool.false_eq_true, Bool.true_eq_false, reduceCtorEq, nI_0, not_true_eq_false, not_false_eq_true, and_true, true_and, and_false, false_and, or_true, true_or, or_false, false_or, and_self, or_self, Int32.add_zero]; omega) | (simp [meterZ, mt2, mt1, c18, c48, Nat.not_le.mpr c48, c69, nI_0]; omega)).symm) ?_
        exact hP
      · refine lv_iconst (v := nI 1) hx hb dX6_meter_72 (by decide) ?_
        refine lv_goto (tgt := 77) hx hb dX6_meter_73 (by decide) ?_
        refine lv_iadd hx hb dX6_meter_77 ?_
        refine md_s1 hx hb hK hI hS hP (by omega) dX6_meter_78 (fun H locs hP hS => ?_)
        refine fr_vret hx hb hr hlocks hK hI hS dX6_meter_79 ?_
        refine fP.eqc (congrArg (fun v9 => mdc ct ad v9 g hs F) (show (meterZ Z k) = (upd (upd (upd Z (39 + 8 * k + 6) ((Z (39 + 8 * k + 6)) + (Z (39 + 8 * k + 0)))) (39 + 8 * k + 7) (((upd Z (39 + 8 * k + 6) ((Z (39 + 8 * k + 6)) + (Z (39 + 8 * k + 0)))) (39 + 8 * k + 7)) + (nI 1))) 6 (((upd (upd Z (39 + 8 * k + 6) ((Z (39 + 8 * k + 6)) + (Z (39 + 8 * k + 0)))) (39 + 8 * k + 7) (((upd Z (39 + 8 * k + 6) ((Z (39 + 8 * k + 6)) + (Z (39 + 8 * k + 0)))) (39 + 8 * k + 7)) + (nI 1))) 6) + (nI 1))) from by first | (exfalso; omega) | (simp only [meterZ, mt2, mt1, c18, c48, Nat.not_le.mpr c48, c69, decide_true, decide_false, Bool.and_true, Bool.true_and, Bool.and_false, Bool.false_and, Bool.or_true, Bool.true_or, Bool.or_false, Bool.false_or, Bool.and_self, Bool.or_self, if_true, if_false, eq_self, Bool.false_eq_true, Bool.true_eq_false, reduceCtorEq, nI_0, not_true_eq_false, not_false_eq_true, and_true, true_and, and_false, false_and, or_true, true_or, or_false, false_or, and_self, or_self, Int32.add_zero]; done) | (simp [meterZ, mt2, mt1, c18, c48, Nat.not_le.mpr c48, c69, nI_0]; done) | (simp only [meterZ, mt2, mt1, c18, c48, Nat.not_le.mpr c48, c69, decide_true, decide_false, Bool.and_true, Bool.true_and, Bool.and_false, Bool.false_and, Bool.or_true, Bool.true_or, Bool.or_false, Bool.false_or, Bool.and_self, Bool.or_self, if_true, if_false, eq_self, Bool.false_eq_true, Bool.true_eq_false, reduceCtorEq, nI_0, not_true_eq_false, not_false_eq_true, and_true, true_and, and_false, false_and, or_true, true_or, or_false, false_or, and_self, or_self, Int32.add_zero]; omega) | (simp [meterZ, mt2, mt1, c18, c48, Nat.not_le.mpr c48, c69, nI_0]; omega)).symm) ?_
        exact hP
set_option maxRecDepth 100000 in
set_option maxHeartbeats 4000000 in
theorem m6_hour (l : Launch) (D : va_G) (ct : Nat → ClassId) (ad : Nat → Nat) (Z g : Nat → Int32) (hs : Int64) (F : Nat → Nat → Int32)  (n : Nat)  (hw : zW Z n) : FMet l yX6_hour cX6_hour 3 (some .int) 5 113 D ct 8 ad [.ref (ad 0)] (mdc ct ad Z g hs F) (some (.int (hrT Z n))) (mdc ct ad (hrZ Z n) g hs F) := by
  refine FMet.of (by decide +kernel) (Nat.le_of_ble_eq_true rfl) ?_
  intro p e s m args below meth c ls hx hb hr hml hown hlocks htg hK hI hP hS hl
  have hl : lv_has ls 3 [(0, .ref (ad 0))] := hl
  have hn10 := hw.1
  refine lv_iconst (v := nI 0) hx hb dX6_hour_0 (by decide) ?_
  refine lv_istore_n (lv' := [(1, .int (nI 0)), (0, .ref (ad 0))]) hx hb dX6_hour_1 rfl hl (by decide) rfl (fun ls hl => ?_)
  refine lv_iconst (v := nI 0) hx hb dX6_hour_2 (by decide) ?_
  refine lv_istore_n (lv' := [(2, .int (nI 0)), (1, .int (nI 0)), (0, .ref (ad 0))]) hx hb dX6_hour_3 rfl hl (by decide) rfl (fun ls hl => ?_)
  have lp4 : ∀ (fu4 : Nat) (i : Nat), i ≤ 4 → 4 - i < fu4 → ∀ (H : Heap) (locs : List Loc), fP D 8 ad (mdc ct ad (shdS Z n i) g hs F) H → va_S (fA 8 ad) s.heap H locs → ∀ (ls : Array Slot), lv_has ls 3 [(2, .int (nI i)), (1, .int (nI 0)), (0, .ref (ad 0))] → W p l e ({ frames := 5, cells := 0, slots := 0, locals := 113 }) s m args below meth c H locs 0 0 (MQ below (fQ D ct 8 ad (some (.int (hrT Z n))) (mdc ct ad (hrZ Z n) g hs F)) args s 0 0 (fA 8 ad)) (F0 m 4 ls []) := by
    intro fu4
    induction fu4 with
    | zero => intro i hi hfu4; exact absurd hfu4 (Nat.not_lt_zero _)
    | succ fu4 ih4 =>
      intro i hi hfu4 H locs hP hS ls hl
      refine lv_iload_n hx hb dX6_hour_4 rfl (lv_at hl 0 rfl) ?_
      refine lv_iconst (v := nI 4) hx hb dX6_hour_5 (by decide) ?_
      refine lv_icmp_geN (tgt := 20) hx hb (by omega) (by omega) dX6_hour_6 (by decide) (fun c6 => ?_) (fun c6 => ?_)
      · obtain rfl : i = 4 := by omega
        refine lv_iconst (v := nI 0) hx hb dX6_hour_20 (by decide) ?_
        refine lv_istore_n (lv' := [(2, .int (nI 0)), (1, .int (nI 0)), (0, .ref (ad 0))]) hx hb dX6_hour_21 rfl hl (by decide) rfl (fun ls hl => ?_)
        have lp22 : ∀ (fu22 : Nat) (i : Nat), i ≤ 4 → 4 - i < fu22 → ∀ (H : Heap) (locs : List Loc), fP D 8 ad (mdc ct ad (warmS (shdS Z n 4) n i) g hs F) H → va_S (fA 8 ad) s.heap H locs → ∀ (ls : Array Slot), lv_has ls 3 [(2, .int (nI i)), (1, .int (nI 0)), (0, .ref (ad 0))] → W p l e ({ frames := 5, cells := 0, slots := 0, locals := 113 }) s m args below meth c H locs 0 0 (MQ below (fQ D ct 8 ad (some (.int (hrT Z n))) (mdc ct ad (hrZ Z n) g hs F)) args s 0 0 (fA 8 ad)) (F0 m 22 ls []) := by
          intro fu22
          induction fu22 with
          | zero => intro i hi hfu22; exact absurd hfu22 (Nat.not_lt_zero _)
          | succ fu22 ih22 =>
            intro i hi hfu22 H locs hP hS ls hl
            refine lv_iload_n hx hb dX6_hour_22 rfl (lv_at hl 0 rfl) ?_
            refine lv_iconst (v := nI 4) hx hb dX6_hour_23 (by decide) ?_
            refine lv_icmp_geN (tgt := 38) hx hb (by omega) (by omega) dX6_hour_24 (by decide) (fun c24 => ?_) (fun c24 => ?_)
            · obtain rfl : i = 4 := by omega
              refine lv_iconst (v := nI 0) hx hb dX6_hour_38 (by decide) ?_
              refine lv_istore_n (lv' := [(2, .int (nI 0)), (1, .int (nI 0)), (0, .ref (ad 0))]) hx hb dX6_hour_39 rfl hl (by decide) rfl (fun ls hl => ?_)
              have lp40 : ∀ (fu40 : Nat) (i : Nat), i ≤ n → n - i < fu40 → ∀ (H : Heap) (locs : List Loc), fP D 8 ad (mdc ct ad (metS (warmS (shdS Z n 4) n 4) i) g hs F) H → va_S (fA 8 ad) s.heap H locs → ∀ (ls : Array Slot), lv_has ls 3 [(2, .int (nI i)), (1, .int (nI 0)), (0, .ref (ad 0))] → W p l e ({ frames := 5, cells := 0, slots := 0, locals := 113 }) s m args below meth c H locs 0 0 (MQ below (fQ D ct 8 ad (some (.int (hrT Z n))) (mdc ct ad (hrZ Z n) g hs F)) args s 0 0 (fA 8 ad)) (F0 m 40 ls []) := by
                intro fu40
                induction fu40 with
                | zero => intro i hi hfu40; exact absurd hfu40 (Nat.not_lt_zero _)
                | succ fu40 ih40 =>
                  intro i hi hfu40 H locs hP hS ls hl
                  refine lv_iload_n hx hb dX6_hour_40 rfl (lv_at hl 0 rfl) ?_
                  refine lv_aload_n hx hb dX6_hour_41 rfl (lv_at hl 2 rfl) ?_
                  refine md_g1 hx hb hown htg hK hP dX6_hour_42 ?_
                  refine lv_iconst (v := nI 4) hx hb dX6_hour_45 (by decide) ?_
                  refine md_l1 hx hb hK hP (by omega) dX6_hour_46 ?_
                  refine lv_teq (metS_zW (warmS_zW (shdS_zW hw 4) 4 (Nat.le_refl 4)) i).2.1 ?_
                  refine lv_icmp_geN (tgt := 61) hx hb (by omega) (by omega) dX6_hour_47 (by decide) (fun c47 => ?_) (fun c47 => ?_)
                  · have e9 : n = i := by omega
                    subst e9
                    refine lv_iconst (v := nI 0) hx hb dX6_hour_61 (by decide) ?_
                    refine lv_istore_n (lv' := [(2, .int (nI 0)), (1, .int (nI 0)), (0, .ref (ad 0))]) hx hb dX6_hour_62 rfl hl (by decide) rfl (fun ls hl => ?_)
                    have lp63 : ∀ (fu63 : Nat) (i : Nat), i ≤ 4 → 4 - i < fu63 → ∀ (H : Heap) (locs : List Loc), fP D 8 ad (mdc ct ad (tripZ (metS (warmS (shdS Z n 4) n 4) n) i) g hs F) H → va_S (fA 8 ad) s.heap H locs → ∀ (ls : Array Slot), lv_has ls 3 [(2, .int (nI i)), (1, .int (tripT (metS (warmS (shdS Z n 4) n 4) n) i)), (0, .ref (ad 0))] → W p l e ({ frames := 5, cells := 0, slots := 0, locals := 113 }) s m args below meth c H locs 0 0 (MQ below (fQ D ct 8 ad (some (.int (hrT Z n))) (mdc ct ad (hrZ Z n) g hs F)) args s 0 0 (fA 8 ad)) (F0 m 63 ls []) := by
                      intro fu63
                      induction fu63 with
                      | zero => intro i hi hfu63; exact absurd hfu63 (Nat.not_lt_zero _)
                      | succ fu63 ih63 =>
                        intro i hi hfu63 H locs hP hS ls hl
                        refine lv_iload_n hx hb dX6_hour_63 rfl (lv_at hl 0 rfl) ?_
                        refine lv_iconst (v := nI 4) hx hb dX6_hour_64 (by decide) ?_
                        refine lv_icmp_geN (tgt := 119) hx hb (by omega) (by omega) dX6_hour_65 (by decide) (fun c65 => ?_) (fun c65 => ?_)
                        · obtain rfl : i = 4 := by omega
                          refine lv_aload_n hx hb dX6_hour_119 rfl (lv_at hl 2 rfl) ?_
                          refine md_g1 hx hb hown htg hK hP dX6_hour_120 ?_
                          refine lv_iconst (v := nI 3) hx hb dX6_hour_123 (by decide) ?_
                          refine lv_dup2_11 hx hb dX6_hour_124 rfl rfl ?_
                          refine md_l1 hx hb hK hP (by omega) dX6_hour_125 ?_
                          refine lv_iconst (v := nI 1) hx hb dX6_hour_126 (by decide) ?_
                          refine lv_iadd hx hb dX6_hour_127 ?_
                          refine md_s1 hx hb hK hI hS hP (by omega) dX6_hour_128 (fun H locs hP hS => ?_)
                          refine lv_iload_n hx hb dX6_hour_129 rfl (lv_at hl 1 rfl) ?_
                          refine fr_iret hx hb hr hlocks hK hI hS rfl dX6_hour_130 ?_ ?_
                          · rfl
                          · refine fP.eqc (congrArg (fun v9 => mdc ct ad v9 g hs F) (show (hrZ Z n) = (upd (tripZ (metS (warmS (shdS Z n 4) n 4) n) 4) 3 (((tripZ (metS (warmS (shdS Z n 4) n 4) n) 4) 3) + (nI 1))) from by rfl).symm) ?_
                            exact hP
                        · refine lv_aload_n hx hb dX6_hour_68 rfl (lv_at hl 2 rfl) ?_
                          refine lv_iload_n hx hb dX6_hour_69 rfl (lv_at hl 0 rfl) ?_
                          refine lv_iconst (v := nI 1) hx hb dX6_hour_70 (by decide) ?_
                          refine md_cVr (As := [.int (nI i), .int (nI 1)]) (rest := []) hx hb hown htg hK hI hS hP hml hl.1 (m6_by l D ct ad _ _ _ _ i 1 (by omega) (by omega)) cw_X6_59 rfl rfl ⟨Nat.le_of_ble_eq_true rfl, Nat.le_of_ble_eq_true rfl⟩ (Nat.le_of_ble_eq_true rfl) dX6_hour_71 ⟨Nat.le_refl _, Nat.le_refl _⟩ (fun H locs hP hS => ?_)
                          refine lv_iconst (v := nI 1) hx hb dX6_hour_74 (by decide) ?_
                          refine lv_icmp_ne (tgt := 113) hx hb dX6_hour_75 (by decide) (fun c75 => ?_) (fun c75 => ?_)
                          · refine lv_iinc (v := nI (i + 1)) (lv' := [(2, .int (nI (i + 1))), (1, .int (tripT (metS (warmS (shdS Z n 4) n 4) n) i)), (0, .ref (ad 0))]) hx hb dX6_hour_113 hl (k := 0) rfl (nI_add i 1) (by decide) rfl (fun ls hl => ?_)
                            refine lv_goto (tgt := 63) hx hb dX6_hour_116 (by decide) ?_
                            have hl := lv_sub (l' := [(2, .int (nI (i + 1))), (1, .int (tripT (metS (warmS (shdS Z n 4) n 4) n) i)), (0, .ref (ad 0))]) hl [0, 1, 2] rfl
                            have e1 : Value.int (tripT (metS (warmS (shdS Z n 4) n 4) n) i) = Value.int (tripT (metS (warmS (shdS Z n 4) n 4) n) (i + 1)) := by first | (exfalso; omega) | (simp only [tripT, trC, c6, Nat.not_lt.mpr c6, c24, Nat.not_lt.mpr c24, c47, Nat.not_lt.mpr c47, c65, Nat.not_le.mpr c65, c75, decide_true, decide_false, Bool.and_true, Bool.true_and, Bool.and_false, Bool.false_and, Bool.or_true, Bool.true_or, Bool.or_false, Bool.false_or, Bool.and_self, Bool.or_self, if_true, if_false, eq_self, Bool.false_eq_true, Bool.true_eq_false, reduceCtorEq, nI_0, not_true_eq_false, not_false_eq_true, and_true, true_and, and_false, false_and, or_true, true_or, or_false, false_or, and_self, or_self, Int32.add_zero]; done) | (simp [tripT, trC, c6, Nat.not_lt.mpr c6, c24, Nat.not_lt.mpr c24, c47, Nat.not_lt.mpr c47, c65, Nat.not_le.mpr c65, c75, nI_0]; done) | (simp only [tripT, trC, c6, Nat.not_lt.mpr c6, c24, Nat.not_lt.mpr c24, c47, Nat.not_lt.mpr c47, c65, Nat.not_le.mpr c65, c75, decide_true, decide_false, Bool.and_true, Bool.true_and, Bool.and_false, Bool.false_and, Bool.or_true, Bool.true_or, Bool.or_false, Bool.false_or, Bool.and_self, Bool.or_self, if_true, if_false, eq_self, Bool.false_eq_true, Bool.true_eq_false, reduceCtorEq, nI_0, not_true_eq_false, not_false_eq_true, and_true, true_and, and_false, false_and, or_true, true_or, or_false, false_or, and_self, or_self, Int32.add_zero]; omega) | (simp [tripT, trC, c6, Nat.not_lt.mpr c6, c24, Nat.not_lt.mpr c24, c47, Nat.not_lt.mpr c47, c65, Nat.not_le.mpr c65, c75, nI_0]; omega)
                            have hl := lv_hasE hl (lcons rfl (lcons e1 (lcons rfl rfl)))
                            have hP := fP.eqc (congrArg (fun v9 => mdc ct ad v9 g hs F) (show (tripZ (metS (warmS (shdS Z n 4) n 4) n) i) = (tripZ (metS (warmS (shdS Z n 4) n 4) n) (i + 1)) from by first | (exfalso; omega) | (simp only [tripZ, trC, tr1, c6, Nat.not_lt.mpr c6, c24, Nat.not_lt.mpr c24, c47, Nat.not_lt.mpr c47, c65, Nat.not_le.mpr c65, c75, decide_true, decide_false, Bool.and_true, Bool.true_and, Bool.and_false, Bool.false_and, Bool.or_true, Bool.true_or, Bool.or_false, Bool.false_or, Bool.and_self, Bool.or_self, if_true, if_false, eq_self, Bool.false_eq_true, Bool.true_eq_false, reduceCtorEq, nI_0, not_true_eq_false, not_false_eq_true, and_true, true_and, and_false, false_and, or_true, true_or, or_false, false_or, and_self, or_self, Int32.add_zero]; done) | (simp [tripZ, trC, tr1, c6, Nat.not_lt.mpr c6, c24, Nat.not_lt.mpr c24, c47, Nat.not_lt.mpr c47, c65, Nat.not_le.mpr c65, c75, nI_0]; done) | (simp only [tripZ, trC, tr1, c6, Nat.not_lt.mpr c6, c24, Nat.not_lt.mpr c24, c47, Nat.not_lt.mpr c47, c65, Nat.not_le.mpr c65, c75, decide_true, decide_false, Bool.and_true, Bool.true_and, Bool.and_false, Bool.false_and, Bool.or_true, Bool.true_or, Bool.or_false, Bool.false_or, Bool.and_self, Bool.or_self, if_true, if_false, eq_self, Bool.false_eq_true, Bool.true_eq_false, reduceCtorEq, nI_0, not_true_eq_false, not_false_eq_true, and_true, true_and, and_false, false_and, or_true, true_or, or_false, false_or, and_self, or_self, Int32.add_zero]; omega) | (simp [tripZ, trC, tr1, c6, Nat.not_lt.mpr c6, c24, Nat.not_lt.mpr c24, c47, Nat.not_lt.mpr c47, c65, Nat.not_le.mpr c65, c75, nI_0]; omega))) hP
                            exact ih63 (i + 1) (by omega) (by omega) _ _ hP hS _ hl
                          · refine lv_aload_n hx hb dX6_hour_78 rfl (lv_at hl 2 rfl) ?_
                            refine lv_iload_n hx hb dX6_hour_79 rfl (lv_at hl 0 rfl) ?_
                            refine lv_iconst (v := nI 2) hx hb dX6_hour_80 (by decide) ?_
                            refine md_cVr (As := [.int (nI i), .int (nI 2)]) (rest := []) hx hb hown htg hK hI hS hP hml hl.1 (m6_by l D ct ad _ _ _ _ i 2 (by omega) (by omega)) cw_X6_59 rfl rfl ⟨Nat.le_of_ble_eq_true rfl, Nat.le_of_ble_eq_true rfl⟩ (Nat.le_of_ble_eq_true rfl) dX6_hour_81 ⟨Nat.le_refl _, Nat.le_refl _⟩ (fun H locs hP hS => ?_)
                            refine lv_bipush (v := nI 9) hx hb dX6_hour_84 (by decide) ?_
                            refine lv_icmp_leR (tgt := 113) hx hb dX6_hour_86 (by decide) (fun c86 => ?_) (fun c86 => ?_)
                            · refine lv_iinc (v := nI (i + 1)) (lv' := [(2, .int (nI (i + 1))), (1, .int (tripT (metS (warmS (shdS Z n 4) n 4) n) i)), (0, .ref (ad 0))]) hx hb dX6_hour_113 hl (k := 0) rfl (nI_add i 1) (by decide) rfl (fun ls hl => ?_)
                              refine lv_goto (tgt := 63) hx hb dX6_hour_116 (by decide) ?_
                              have hl := lv_sub (l' := [(2, .int (nI (i + 1))), (1, .int (tripT (metS (warmS (shdS Z n 4) n 4) n) i)), (0, .ref (ad 0))]) hl [0, 1, 2] rfl
                              have e1 : Value.int (tripT (metS (warmS (shdS Z n 4) n 4) n) i) = Value.int (tripT (metS (warmS (shdS Z n 4) n 4) n) (i + 1)) := by first | (exfalso; omega) | (simp only [tripT, trC, c6, Nat.not_lt.mpr c6, c24, Nat.not_lt.mpr c24, c47, Nat.not_lt.mpr c47, c65, Nat.not_le.mpr c65, c75, c86, Int32.not_lt.mpr c86, decide_true, decide_false, Bool.and_true, Bool.true_and, Bool.and_false, Bool.false_and, Bool.or_true, Bool.true_or, Bool.or_false, Bool.false_or, Bool.and_self, Bool.or_self, if_true, if_false, eq_self, Bool.false_eq_true, Bool.true_eq_false, reduceCtorEq, nI_0, not_true_eq_false, not_false_eq_true, and_true, true_and, and_false, false_and, or_true, true_or, or_false, false_or, and_self, or_self, Int32.add_zero]; done) | (simp [tripT, trC, c6, Nat.not_lt.mpr c6, c24, Nat.not_lt.mpr c24, c47, Nat.not_lt.mpr c47, c65, Nat.not_le.mpr c65, c75, c86, Int32.not_lt.mpr c86, nI_0]; done) | (simp only [tripT, trC, c6, Nat.not_lt.mpr c6, c24, Nat.not_lt.mpr c24, c47, Nat.not_lt.mpr c47, c65, Nat.not_le.mpr c65, c75, c86, Int32.not_lt.mpr c86, decide_true, decide_false, Bool.and_true, Bool.true_and, Bool.and_false, Bool.false_and, Bool.or_true, Bool.true_or, Bool.or_false, Bool.false_or, Bool.and_self, Bool.or_self, if_true, if_false, eq_self, Bool.false_eq_true, Bool.true_eq_false, reduceCtorEq, nI_0, not_true_eq_false, not_false_eq_true, and_true, true_and, and_false, false_and, or_true, true_or, or_false, false_or, and_self, or_self, Int32.add_zero]; omega) | (simp [tripT, trC, c6, Nat.not_lt.mpr c6, c24, Nat.not_lt.mpr c24, c47, Nat.not_lt.mpr c47, c65, Nat.not_le.mpr c65, c75, c86, Int32.not_lt.mpr c86, nI_0]; omega)
                              have hl := lv_hasE hl (lcons rfl (lcons e1 (lcons rfl rfl)))
                              have hP := fP.eqc (congrArg (fun v9 => mdc ct ad v9 g hs F) (show (tripZ (metS (warmS (shdS Z n 4) n 4) n) i) = (tripZ (metS (warmS (shdS Z n 4) n 4) n) (i + 1)) from by first | (exfalso; omega) | (simp only [tripZ, trC, tr1, c6, Nat.not_lt.mpr c6, c24, Nat.not_lt.mpr c24, c47, Nat.not_lt.mpr c47, c65, Nat.not_le.mpr c65, c75, c86, Int32.not_lt.mpr c86, decide_true, decide_false, Bool.and_true, Bool.true_and, Bool.and_false, Bool.false_and, Bool.or_true, Bool.true_or, Bool.or_false, Bool.false_or, Bool.and_self, Bool.or_self, if_true, if_false, eq_self, Bool.false_eq_true, Bool.true_eq_false, reduceCtorEq, nI_0, not_true_eq_false, not_false_eq_true, and_true, true_and, and_false, false_and, or_true, true_or, or_false, false_or, and_self, or_self, Int32.add_zero]; done) | (simp [tripZ, trC, tr1, c6, Nat.not_lt.mpr c6, c24, Nat.not_lt.mpr c24, c47, Nat.not_lt.mpr c47, c65, Nat.not_le.mpr c65, c75, c86, Int32.not_lt.mpr c86, nI_0]; done) | (simp only [tripZ, trC, tr1, c6, Nat.not_lt.mpr c6, c24, Nat.not_lt.mpr c24, c47, Nat.not_lt.mpr c47, c65, Nat.not_le.mpr c65, c75, c86, Int32.not_lt.mpr c86, decide_true, decide_false, Bool.and_true, Bool.true_and, Bool.and_false, Bool.false_and, Bool.or_true, Bool.true_or, Bool.or_false, Bool.false_or, Bool.and_self, Bool.or_self, if_true, if_false, eq_self, Bool.false_eq_true, Bool.true_eq_false, reduceCtorEq, nI_0, not_true_eq_false, not_false_eq_true, and_true, true_and, and_false, false_and, or_true, true_or, or_false, false_or, and_self, or_self, Int32.add_zero]; omega) | (simp [tripZ, trC, tr1, c6, Nat.not_lt.mpr c6, c24, Nat.not_lt.mpr c24, c47, Nat.not_lt.mpr c47, c65, Nat.not_le.mpr c65, c75, c86, Int32.not_lt.mpr c86, nI_0]; omega))) hP
                              exact ih63 (i + 1) (by omega) (by omega) _ _ hP hS _ hl
                            · refine lv_aload_n hx hb dX6_hour_89 rfl (lv_at hl 2 rfl) ?_
                              refine lv_iload_n hx hb dX6_hour_90 rfl (lv_at hl 0 rfl) ?_
                              refine lv_iconst (v := nI 1) hx hb dX6_hour_91 (by decide) ?_
                              refine lv_iconst (v := nI 0) hx hb dX6_hour_92 (by decide) ?_
                              refine md_cV0 (As := [.int (nI i), .int (nI 1), .int (nI 0)]) (rest := []) hx hb hown htg hK hI hS hP hml hl.1 (m6_put l D ct ad _ _ _ _ i 1 (nI 0) (by omega) (by omega)) cw_X6_32 rfl rfl ⟨Nat.le_of_ble_eq_true rfl, Nat.le_of_ble_eq_true rfl⟩ (Nat.le_of_ble_eq_true rfl) dX6_hour_93 ⟨Nat.le_refl _, Nat.le_refl _⟩ (fun H locs hP hS => ?_)
                              refine lv_aload_n hx hb dX6_hour_96 rfl (lv_at hl 2 rfl) ?_
                              refine lv_iload_n hx hb dX6_hour_97 rfl (lv_at hl 0 rfl) ?_
                              refine lv_iconst (v := nI 3) hx hb dX6_hour_98 (by decide) ?_
                              refine lv_aload_n hx hb dX6_hour_99 rfl (lv_at hl 2 rfl) ?_
                              refine lv_iload_n hx hb dX6_hour_100 rfl (lv_at hl 0 rfl) ?_
                              refine lv_iconst (v := nI 3) hx hb dX6_hour_101 (by decide) ?_
                              refine md_cVr (As := [.int (nI i), .int (nI 3)]) (rest := [.int (nI 3), .int (nI i), .ref (ad 0)]) hx hb hown htg hK hI hS hP hml hl.1 (m6_by l D ct ad _ _ _ _ i 3 (by omega) (by omega)) cw_X6_59 rfl rfl ⟨Nat.le_of_ble_eq_true rfl, Nat.le_of_ble_eq_true rfl⟩ (Nat.le_of_ble_eq_true rfl) dX6_hour_102 ⟨Nat.le_refl _, Nat.le_refl _⟩ (fun H locs hP hS => ?_)
                              refine lv_iconst (v := nI 1) hx hb dX6_hour_105 (by decide) ?_
                              refine lv_iadd hx hb dX6_hour_106 ?_
                              refine md_cV0 (As := [.int (nI i), .int (nI 3), .int (((upd (tripZ (metS (warmS (shdS Z n 4) n 4) n) i) (7 + 5 * i + 1) (nI 0)) (7 + 5 * i + 3)) + (nI 1))]) (rest := []) hx hb hown htg hK hI hS hP hml hl.1 (m6_put l D ct ad _ _ _ _ i 3 (((upd (tripZ (metS (warmS (shdS Z n 4) n 4) n) i) (7 + 5 * i + 1) (nI 0)) (7 + 5 * i + 3)) + (nI 1)) (by omega) (by omega)) cw_X6_32 rfl rfl ⟨Nat.le_of_ble_eq_true rfl, Nat.le_of_ble_eq_true rfl⟩ (Nat.le_of_ble_eq_true rfl) dX6_hour_107 ⟨Nat.le_refl _, Nat.le_refl _⟩ (fun H locs hP hS => ?_)
                              refine lv_iinc (v := (tripT (metS (warmS (shdS Z n 4) n 4) n) i) + nI 1) (lv' := [(1, .int ((tripT (metS (warmS (shdS Z n 4) n 4) n) i) + nI 1)), (2, .int (nI i)), (0, .ref (ad 0))]) hx hb dX6_hour_110 hl (k := 1) rfl rfl (by decide) rfl (fun ls hl => ?_)
                              refine lv_iinc (v := nI (i + 1)) (lv' := [(2, .int (nI (i + 1))), (1, .int ((tripT (metS (warmS (shdS Z n 4) n 4) n) i) + nI 1)), (0, .ref (ad 0))]) hx hb dX6_hour_113 hl (k := 1) rfl (nI_add i 1) (by decide) rfl (fun ls hl => ?_)
                              refine lv_goto (tgt := 63) hx hb dX6_hour_116 (by decide) ?_
                              have hl := lv_sub (l' := [(2, .int (nI (i + 1))), (1, .int ((tripT (metS (warmS (shdS Z n 4) n 4) n) i) + nI 1)), (0, .ref (ad 0))]) hl [0, 1, 2] rfl
                              have e1 : Value.int ((tripT (metS (warmS (shdS Z n 4) n 4) n) i) + nI 1) = Value.int (tripT (metS (warmS (shdS Z n 4) n 4) n) (i + 1)) := by first | (exfalso; omega) | (simp only [tripT, trC, c6, Nat.not_lt.mpr c6, c24, Nat.not_lt.mpr c24, c47, Nat.not_lt.mpr c47, c65, Nat.not_le.mpr c65, c75, c86, Int32.not_le.mpr c86, decide_true, decide_false, Bool.and_true, Bool.true_and, Bool.and_false, Bool.false_and, Bool.or_true, Bool.true_or, Bool.or_false, Bool.false_or, Bool.and_self, Bool.or_self, if_true, if_false, eq_self, Bool.false_eq_true, Bool.true_eq_false, reduceCtorEq, nI_0, not_true_eq_false, not_false_eq_true, and_true, true_and, and_false, false_and, or_true, true_or, or_false, false_or, and_self, or_self, Int32.add_zero]; done) | (simp [tripT, trC, c6, Nat.not_lt.mpr c6, c24, Nat.not_lt.mpr c24, c47, Nat.not_lt.mpr c47, c65, Nat.not_le.mpr c65, c75, c86, Int32.not_le.mpr c86, nI_0]; done) | (simp only [tripT, trC, c6, Nat.not_lt.mpr c6, c24, Nat.not_lt.mpr c24, c47, Nat.not_lt.mpr c47, c65, Nat.not_le.mpr c65, c75, c86, Int32.not_le.mpr c86, decide_true, decide_false, Bool.and_true, Bool.true_and, Bool.and_false, Bool.false_and, Bool.or_true, Bool.true_or, Bool.or_false, Bool.false_or, Bool.and_self, Bool.or_self, if_true, if_false, eq_self, Bool.false_eq_true, Bool.true_eq_false, reduceCtorEq, nI_0, not_true_eq_false, not_false_eq_true, and_true, true_and, and_false, false_and, or_true, true_or, or_false, false_or, and_self, or_self, Int32.add_zero]; omega) | (simp [tripT, trC, c6, Nat.not_lt.mpr c6, c24, Nat.not_lt.mpr c24, c47, Nat.not_lt.mpr c47, c65, Nat.not_le.mpr c65, c75, c86, Int32.not_le.mpr c86, nI_0]; omega)
                              have hl := lv_hasE hl (lcons rfl (lcons e1 (lcons rfl rfl)))
                              have hP := fP.eqc (congrArg (fun v9 => mdc ct ad v9 g hs F) (show (upd (upd (tripZ (metS (warmS (shdS Z n 4) n 4) n) i) (7 + 5 * i + 1) (nI 0)) (7 + 5 * i + 3) (((upd (tripZ (metS (warmS (shdS Z n 4) n 4) n) i) (7 + 5 * i + 1) (nI 0)) (7 + 5 * i + 3)) + (nI 1))) = (tripZ (metS (warmS (shdS Z n 4) n 4) n) (i + 1)) from by first | (exfalso; omega) | (simp only [tripZ, trC, tr1, c6, Nat.not_lt.mpr c6, c24, Nat.not_lt.mpr c24, c47, Nat.not_lt.mpr c47, c65, Nat.not_le.mpr c65, c75, c86, Int32.not_le.mpr c86, decide_true, decide_false, Bool.and_true, Bool.true_and, Bool.and_false, Bool.false_and, Bool.or_true, Bool.true_or, Bool.or_false, Bool.false_or, Bool.and_self, Bool.or_self, if_true, if_false, eq_self, Bool.false_eq_true, Bool.true_eq_false, reduceCtorEq, nI_0, not_true_eq_false, not_false_eq_true, and_true, true_and, and_false, false_and, or_true, true_or, or_false, false_or, and_self, or_self, Int32.add_zero]; done) | (simp [tripZ, trC, tr1, c6, Nat.not_lt.mpr c6, c24, Nat.not_lt.mpr c24, c47, Nat.not_lt.mpr c47, c65, Nat.not_le.mpr c65, c75, c86, Int32.not_le.mpr c86, nI_0]; done) | (simp only [tripZ, trC, tr1, c6, Nat.not_lt.mpr c6, c24, Nat.not_lt.mpr c24, c47, Nat.not_lt.mpr c47, c65, Nat.not_le.mpr c65, c75, c86, Int32.not_le.mpr c86, decide_true, decide_false, Bool.and_true, Bool.true_and, Bool.and_false, Bool.false_and, Bool.or_true, Bool.true_or, Bool.or_false, Bool.false_or, Bool.and_self, Bool.or_self, if_true, if_false, eq_self, Bool.false_eq_true, Bool.true_eq_false, reduceCtorEq, nI_0, not_true_eq_false, not_false_eq_true, and_true, true_and, and_false, false_and, or_true, true_or, or_false, false_or, and_self, or_self, Int32.add_zero]; omega) | (simp [tripZ, trC, tr1, c6, Nat.not_lt.mpr c6, c24, Nat.not_lt.mpr c24, c47, Nat.not_lt.mpr c47, c65, Nat.not_le.mpr c65, c75, c86, Int32.not_le.mpr c86, nI_0]; omega))) hP
                              exact ih63 (i + 1) (by omega) (by omega) _ _ hP hS _ hl
                    have hl := lv_sub (l' := [(2, .int (nI 0)), (1, .int (nI 0)), (0, .ref (ad 0))]) hl [0, 1, 2] rfl
                    have e1 : Value.int (nI 0) = Value.int (tripT (metS (warmS (shdS Z n 4) n 4) n) 0) := by rfl
                    have hl := lv_hasE hl (lcons rfl (lcons e1 (lcons rfl rfl)))
                    have hP := fP.eqc (congrArg (fun v9 => mdc ct ad v9 g hs F) (show (metS (warmS (shdS Z n 4) n 4) n) = (tripZ (metS (warmS (shdS Z n 4) n 4) n) 0) from by rfl)) hP
                    exact lp63 (4 - 0 + 1) 0 (by omega) (Nat.lt_succ_self _) _ _ hP hS _ hl
                  · refine lv_aload_n hx hb dX6_hour_50 rfl (lv_at hl 2 rfl) ?_
                    refine lv_iload_n hx hb dX6_hour_51 rfl (lv_at hl 0 rfl) ?_
                    refine md_cV0 (As := [.int (nI i)]) (rest := []) hx hb hown htg hK hI hS hP hml hl.1 (m6_meter l D ct ad _ _ _ _ i n (metS_zW (warmS_zW (shdS_zW hw 4) 4 (Nat.le_refl 4)) i) (by omega)) cw_X6_88 rfl rfl ⟨Nat.le_of_ble_eq_true rfl, Nat.le_of_ble_eq_true rfl⟩ (Nat.le_of_ble_eq_true rfl) dX6_hour_52 ⟨Nat.le_refl _, Nat.le_refl _⟩ (fun H locs hP hS => ?_)
                    refine lv_iinc (v := nI (i + 1)) (lv' := [(2, .int (nI (i + 1))), (1, .int (nI 0)), (0, .ref (ad 0))]) hx hb dX6_hour_55 hl (k := 0) rfl (nI_add i 1) (by decide) rfl (fun ls hl => ?_)
                    refine lv_goto (tgt := 40) hx hb dX6_hour_58 (by decide) ?_
                    have hl := lv_sub (l' := [(2, .int (nI (i + 1))), (1, .int (nI 0)), (0, .ref (ad 0))]) hl [0, 1, 2] rfl
                    have hP := fP.eqc (congrArg (fun v9 => mdc ct ad v9 g hs F) (show (meterZ (metS (warmS (shdS Z n 4) n 4) i) i) = (metS (warmS (shdS Z n 4) n 4) (i + 1)) from by rfl)) hP
                    exact ih40 (i + 1) (by omega) (by omega) _ _ hP hS _ hl
              have hl := lv_sub (l' := [(2, .int (nI 0)), (1, .int (nI 0)), (0, .ref (ad 0))]) hl [0, 1, 2] rfl
              have hP := fP.eqc (congrArg (fun v9 => mdc ct ad v9 g hs F) (show (warmS (shdS Z n 4) n 4) = (metS (warmS (shdS Z n 4) n 4) 0) from by rfl)) hP
              exact lp40 (n - 0 + 1) 0 (by omega) (Nat.lt_succ_self _) _ _ hP hS _ hl
            · refine lv_aload_n hx hb dX6_hour_27 rfl (lv_at hl 2 rfl) ?_
              refine lv_iload_n hx hb dX6_hour_28 rfl (lv_at hl 0 rfl) ?_
              refine md_cV0 (As := [.int (nI i)]) (rest := []) hx hb hown htg hK hI hS hP hml hl.1 (m6_warm l D ct ad _ _ _ _ i n (warmS_zW (shdS_zW hw 4) i hi) (by omega)) cw_X6_85 rfl rfl ⟨Nat.le_of_ble_eq_true rfl, Nat.le_of_ble_eq_true rfl⟩ (Nat.le_of_ble_eq_true rfl) dX6_hour_29 ⟨Nat.le_refl _, Nat.le_refl _⟩ (fun H locs hP hS => ?_)
              refine lv_iinc (v := nI (i + 1)) (lv' := [(2, .int (nI (i + 1))), (1, .int (nI 0)), (0, .ref (ad 0))]) hx hb dX6_hour_32 hl (k := 0) rfl (nI_add i 1) (by decide) rfl (fun ls hl => ?_)
              refine lv_goto (tgt := 22) hx hb dX6_hour_35 (by decide) ?_
              have hl := lv_sub (l' := [(2, .int (nI (i + 1))), (1, .int (nI 0)), (0, .ref (ad 0))]) hl [0, 1, 2] rfl
              have hP := fP.eqc (congrArg (fun v9 => mdc ct ad v9 g hs F) (show (warmZ (warmS (shdS Z n 4) n i) i n) = (warmS (shdS Z n 4) n (i + 1)) from by rfl)) hP
              exact ih22 (i + 1) (by omega) (by omega) _ _ hP hS _ hl
        have hl := lv_sub (l' := [(2, .int (nI 0)), (1, .int (nI 0)), (0, .ref (ad 0))]) hl [0, 1, 2] rfl
        have hP := fP.eqc (congrArg (fun v9 => mdc ct ad v9 g hs F) (show (shdS Z n 4) = (warmS (shdS Z n 4) n 0) from by rfl)) hP
        exact lp22 (4 - 0 + 1) 0 (by omega) (Nat.lt_succ_self _) _ _ hP hS _ hl
      · refine lv_aload_n hx hb dX6_hour_9 rfl (lv_at hl 2 rfl) ?_
        refine lv_iload_n hx hb dX6_hour_10 rfl (lv_at hl 0 rfl) ?_
        refine md_cV0 (As := [.int (nI i)]) (rest := []) hx hb hown htg hK hI hS hP hml hl.1 (m6_shedByRank l D ct ad _ _ _ _ i n (shdS_zW hw i) (by omega)) cw_X6_81 rfl rfl ⟨Nat.le_of_ble_eq_true rfl, Nat.le_of_ble_eq_true rfl⟩ (Nat.le_of_ble_eq_true rfl) dX6_hour_11 ⟨Nat.le_refl _, Nat.le_refl _⟩ (fun H locs hP hS => ?_)
        refine lv_iinc (v := nI (i + 1)) (lv' := [(2, .int (nI (i + 1))), (1, .int (nI 0)), (0, .ref (ad 0))]) hx hb dX6_hour_14 hl (k := 0) rfl (nI_add i 1) (by decide) rfl (fun ls hl => ?_)
        refine lv_goto (tgt := 4) hx hb dX6_hour_17 (by decide) ?_
        have hl := lv_sub (l' := [(2, .int (nI (i + 1))), (1, .int (nI 0)), (0, .ref (ad 0))]) hl [0, 1, 2] rfl
        have hP := fP.eqc (congrArg (fun v9 => mdc ct ad v9 g hs F) (show (shdZ (shdS Z n i) i n) = (shdS Z n (i + 1)) from by rfl)) hP
        exact ih4 (i + 1) (by omega) (by omega) _ _ hP hS _ hl
  have hl := lv_sub (l' := [(2, .int (nI 0)), (1, .int (nI 0)), (0, .ref (ad 0))]) hl [0, 1, 2] rfl
  have hP := fP.eqc (congrArg (fun v9 => mdc ct ad v9 g hs F) (show Z = (shdS Z n 0) from by rfl)) hP
  exact lp4 (4 - 0 + 1) 0 (by omega) (Nat.lt_succ_self _) _ _ hP hS _ hl
set_option maxRecDepth 100000 in
set_option maxHeartbeats 4000000 in
theorem m6_hours (l : Launch) (D : va_G) (ct : Nat → ClassId) (ad : Nat → Nat) (Z g : Nat → Int32) (hs : Int64) (F : Nat → Nat → Int32) (tm : Nat) (n : Nat)  (hw : zW Z n) (hm : tm < 2147483648) : FMet l yX6_hours cX6_hours 4 (some .int) 6 135 D ct 8 ad [.ref (ad 0), .int (nI tm)] (mdc ct ad Z g hs F) (some (.int (hsT Z n tm))) (mdc ct ad (hsZ Z n tm) g hs F) := by
  refine FMet.of (by decide +kernel) (Nat.le_of_ble_eq_true rfl) ?_
  intro p e s m args below meth c ls hx hb hr hml hown hlocks htg hK hI hP hS hl
  have hl : lv_has ls 4 [(0, .ref (ad 0)), (1, .int (nI tm))] := hl
  have hn10 := hw.1
  refine lv_iconst (v := nI 0) hx hb dX6_hours_0 (by decide) ?_
  refine lv_istore_n (lv' := [(2, .int (nI 0)), (0, .ref (ad 0)), (1, .int (nI tm))]) hx hb dX6_hours_1 rfl hl (by decide) rfl (fun ls hl => ?_)
  refine lv_iconst (v := nI 0) hx hb dX6_hours_2 (by decide) ?_
  refine lv_istore_n (lv' := [(3, .int (nI 0)), (2, .int (nI 0)), (0, .ref (ad 0)), (1, .int (nI tm))]) hx hb dX6_hours_3 rfl hl (by decide) rfl (fun ls hl => ?_)
  have lp4 : ∀ (fu4 : Nat) (i : Nat), i ≤ tm → tm - i < fu4 → ∀ (H : Heap) (locs : List Loc), fP D 8 ad (mdc ct ad (hsZ Z n i) g hs F) H → va_S (fA 8 ad) s.heap H locs → ∀ (ls : Array Slot), lv_has ls 4 [(3, .int (nI i)), (2, .int (hsT Z n i)), (0, .ref (ad 0)), (1, .int (nI tm))] → W p l e ({ frames := 6, cells := 0, slots := 0, locals := 135 }) s m args below meth c H locs 0 0 (MQ below (fQ D ct 8 ad (some (.int (hsT Z n tm))) (mdc ct ad (hsZ Z n tm) g hs F)) args s 0 0 (fA 8 ad)) (F0 m 4 ls []) := by
    intro fu4
    induction fu4 with
    | zero => intro i hi hfu4; exact absurd hfu4 (Nat.not_lt_zero _)
    | succ fu4 ih4 =>
      intro i hi hfu4 H locs hP hS ls hl
      refine lv_iload_n hx hb dX6_hours_4 rfl (lv_at hl 0 rfl) ?_
      refine lv_iload_n hx hb dX6_hours_5 rfl (lv_at hl 3 rfl) ?_
      refine lv_icmp_geN (tgt := 22) hx hb (by omega) (by omega) dX6_hours_6 (by decide) (fun c6 => ?_) (fun c6 => ?_)
      · have e9 : tm = i := by omega
        subst e9
        refine lv_iload_n hx hb dX6_hours_22 rfl (lv_at hl 1 rfl) ?_
        refine fr_iret hx hb hr hlocks hK hI hS rfl dX6_hours_23 ?_ ?_
        · exact rfl
        · exact hP
      · refine lv_iload_n hx hb dX6_hours_9 rfl (lv_at hl 1 rfl) ?_
        refine lv_aload_n hx hb dX6_hours_10 rfl (lv_at hl 2 rfl) ?_
        refine md_cVr (As := []) (rest := [.int (hsT Z n i)]) hx hb hown htg hK hI hS hP hml hl.1 (m6_hour l D ct ad _ _ _ _ n (hsZ_zW hw i)) cw_X6_91 rfl rfl ⟨Nat.le_of_ble_eq_true rfl, Nat.le_of_ble_eq_true rfl⟩ (Nat.le_of_ble_eq_true rfl) dX6_hours_11 ⟨Nat.le_refl _, Nat.le_refl _⟩ (fun H locs hP hS => ?_)
        refine lv_iadd hx hb dX6_hours_14 ?_
        refine lv_istore_n (lv' := [(2, .int ((hsT Z n i) + (hrT (hsZ Z n i) n))), (3, .int (nI i)), (0, .ref (ad 0)), (1, .int (nI tm))]) hx hb dX6_hours_15 rfl hl (by decide) rfl (fun ls hl => ?_)
        refine lv_iinc (v := nI (i + 1)) (lv' := [(3, .int (nI (i + 1))), (2, .int ((hsT Z n i) + (hrT (hsZ Z n i) n))), (0, .ref (ad 0)), (1, .int (nI tm))]) hx hb dX6_hours_16 hl (k := 1) rfl (nI_add i 1) (by decide) rfl (fun ls hl => ?_)
        refine lv_goto (tgt := 4) hx hb dX6_hours_19 (by decide) ?_
        have hl := lv_sub (l' := [(3, .int (nI (i + 1))), (2, .int ((hsT Z n i) + (hrT (hsZ Z n i) n))), (0, .ref (ad 0)), (1, .int (nI tm))]) hl [0, 1, 2, 3] rfl
        have e2 : Value.int ((hsT Z n i) + (hrT (hsZ Z n i) n)) = Value.int (hsT Z n (i + 1)) := by rfl
        have hl := lv_hasE hl (lcons rfl (lcons e2 (lcons rfl (lcons rfl rfl))))
        have hP := fP.eqc (congrArg (fun v9 => mdc ct ad v9 g hs F) (show (hrZ (hsZ Z n i) n) = (hsZ Z n (i + 1)) from by rfl)) hP
        exact ih4 (i + 1) (by omega) (by omega) _ _ hP hS _ hl
  have hl := lv_sub (l' := [(3, .int (nI 0)), (2, .int (nI 0)), (0, .ref (ad 0)), (1, .int (nI tm))]) hl [0, 1, 2, 3] rfl
  have e2 : Value.int (nI 0) = Value.int (hsT Z n 0) := by rfl
  have hl := lv_hasE hl (lcons rfl (lcons e2 (lcons rfl (lcons rfl rfl))))
  have hP := fP.eqc (congrArg (fun v9 => mdc ct ad v9 g hs F) (show Z = (hsZ Z n 0) from by rfl)) hP
  exact lp4 (tm - 0 + 1) 0 (by omega) (Nat.lt_succ_self _) _ _ hP hS _ hl
set_option maxRecDepth 100000 in
set_option maxHeartbeats 4000000 in
theorem m6_stallComes (l : Launch) (D : va_G) (ct : Nat → ClassId) (ad : Nat → Nat) (Z g : Nat → Int32) (hs : Int64) (F : Nat → Nat → Int32) (a0 : Int32) (a1 : Int32) (a2 : Int32) (a3 : Int32) (n : Nat)  (hw : zW Z n) (hn : n < 10) : FMet l yX6_stallComes cX6_stallComes 6 (some .int) 1 23 D ct 8 ad [.ref (ad 0), .int (a0), .int (a1), .int (a2), .int (a3)] (mdc ct ad Z g hs F) (some (.int (nI n))) (mdc ct ad (comeZ Z n a0 a1 a2 a3) g hs F) := by
  refine FMet.of (by decide +kernel) (Nat.le_of_ble_eq_true rfl) ?_
  intro p e s m args below meth c ls hx hb hr hml hown hlocks htg hK hI hP hS hl
  have hl : lv_has ls 6 [(0, .ref (ad 0)), (1, .int (a0)), (2, .int (a1)), (3, .int (a2)), (4, .int (a3))] := hl
  have hn10 := hw.1
  refine lv_aload_n hx hb dX6_stallComes_0 rfl (lv_at hl 0 rfl) ?_
  refine md_g1 hx hb hown htg hK hP dX6_stallComes_1 ?_
  refine lv_iconst (v := nI 4) hx hb dX6_stallComes_4 (by decide) ?_
  refine md_l1 hx hb hK hP (by omega) dX6_stallComes_5 ?_
  refine lv_teq (hw).2.1 ?_
  refine lv_istore (lv' := [(5, .int (nI n)), (0, .ref (ad 0)), (1, .int (a0)), (2, .int (a1)), (3, .int (a2)), (4, .int (a3))]) hx hb dX6_stallComes_6 hl (by decide) rfl (fun ls hl => ?_)
  refine lv_aload_n hx hb dX6_stallComes_8 rfl (lv_at hl 1 rfl) ?_
  refine lv_iload hx hb dX6_stallComes_9 (lv_at hl 0 rfl) ?_
  refine lv_iconst (v := nI 0) hx hb dX6_stallComes_11 (by decide) ?_
  refine lv_iload_n hx hb dX6_stallComes_12 rfl (lv_at hl 2 rfl) ?_
  refine md_cV0 (As := [.int (nI n), .int (nI 0), .int (a0)]) (rest := []) hx hb hown htg hK hI hS hP hml hl.1 (m6_lay l D ct ad _ _ _ _ n 0 a0 (by omega) (by omega)) cw_X6_78 rfl rfl ⟨Nat.le_of_ble_eq_true rfl, Nat.le_of_ble_eq_true rfl⟩ (Nat.le_of_ble_eq_true rfl) dX6_stallComes_13 ⟨Nat.le_refl _, Nat.le_refl _⟩ (fun H locs hP hS => ?_)
  refine lv_aload_n hx hb dX6_stallComes_16 rfl (lv_at hl 1 rfl) ?_
  refine lv_iload hx hb dX6_stallComes_17 (lv_at hl 0 rfl) ?_
  refine lv_iconst (v := nI 1) hx hb dX6_stallComes_19 (by decide) ?_
  refine lv_iload_n hx hb dX6_stallComes_20 rfl (lv_at hl 3 rfl) ?_
  refine md_cV0 (As := [.int (nI n), .int (nI 1), .int (a1)]) (rest := []) hx hb hown htg hK hI hS hP hml hl.1 (m6_lay l D ct ad _ _ _ _ n 1 a1 (by omega) (by omega)) cw_X6_78 rfl rfl ⟨Nat.le_of_ble_eq_true rfl, Nat.le_of_ble_eq_true rfl⟩ (Nat.le_of_ble_eq_true rfl) dX6_stallComes_21 ⟨Nat.le_refl _, Nat.le_refl _⟩ (fun H locs hP hS => ?_)
  refine lv_aload_n hx hb dX6_stallComes_24 rfl (lv_at hl 1 rfl) ?_
  refine lv_iload hx hb dX6_stallComes_25 (lv_at hl 0 rfl) ?_
  refine lv_iconst (v := nI 2) hx hb dX6_stallComes_27 (by decide) ?_
  refine lv_iload_n hx hb dX6_stallComes_28 rfl (lv_at hl 4 rfl) ?_
  refine md_cV0 (As := [.int (nI n), .int (nI 2), .int (a2)]) (rest := []) hx hb hown htg hK hI hS hP hml hl.1 (m6_lay l D ct ad _ _ _ _ n 2 a2 (by omega) (by omega)) cw_X6_78 rfl rfl ⟨Nat.le_of_ble_eq_true rfl, Nat.le_of_ble_eq_true rfl⟩ (Nat.le_of_ble_eq_true rfl) dX6_stallComes_29 ⟨Nat.le_refl _, Nat.le_refl _⟩ (fun H locs hP hS => ?_)
  refine lv_aload_n hx hb dX6_stallComes_32 rfl (lv_at hl 1 rfl) ?_
  refine lv_iload hx hb dX6_stallComes_33 (lv_at hl 0 rfl) ?_
  refine lv_iconst (v := nI 3) hx hb dX6_stallComes_35 (by decide) ?_
  refine lv_iload hx hb dX6_stallComes_36 (lv_at hl 5 rfl) ?_
  refine md_cV0 (As := [.int (nI n), .int (nI 3), .int (a3)]) (rest := []) hx hb hown htg hK hI hS hP hml hl.1 (m6_lay l D ct ad _ _ _ _ n 3 a3 (by omega) (by omega)) cw_X6_78 rfl rfl ⟨Nat.le_of_ble_eq_true rfl, Nat.le_of_ble_eq_true rfl⟩ (Nat.le_of_ble_eq_true rfl) dX6_stallComes_38 ⟨Nat.le_refl _, Nat.le_refl _⟩ (fun H locs hP hS => ?_)
  refine lv_aload_n hx hb dX6_stallComes_41 rfl (lv_at hl 1 rfl) ?_
  refine lv_iload hx hb dX6_stallComes_42 (lv_at hl 0 rfl) ?_
  refine lv_iconst (v := nI 4) hx hb dX6_stallComes_44 (by decide) ?_
  refine lv_iconst (v := -1) hx hb dX6_stallComes_45 (by decide) ?_
  refine md_cV0 (As := [.int (nI n), .int (nI 4), .int (-1)]) (rest := []) hx hb hown htg hK hI hS hP hml hl.1 (m6_lay l D ct ad _ _ _ _ n 4 (-1) (by omega) (by omega)) cw_X6_78 rfl rfl ⟨Nat.le_of_ble_eq_true rfl, Nat.le_of_ble_eq_true rfl⟩ (Nat.le_of_ble_eq_true rfl) dX6_stallComes_46 ⟨Nat.le_refl _, Nat.le_refl _⟩ (fun H locs hP hS => ?_)
  refine lv_aload_n hx hb dX6_stallComes_49 rfl (lv_at hl 1 rfl) ?_
  refine lv_iload hx hb dX6_stallComes_50 (lv_at hl 0 rfl) ?_
  refine lv_iconst (v := nI 5) hx hb dX6_stallComes_52 (by decide) ?_
  refine lv_iconst (v := nI 0) hx hb dX6_stallComes_53 (by decide) ?_
  refine md_cV0 (As := [.int (nI n), .int (nI 5), .int (nI 0)]) (rest := []) hx hb hown htg hK hI hS hP hml hl.1 (m6_lay l D ct ad _ _ _ _ n 5 (nI 0) (by omega) (by omega)) cw_X6_78 rfl rfl ⟨Nat.le_of_ble_eq_true rfl, Nat.le_of_ble_eq_true rfl⟩ (Nat.le_of_ble_eq_true rfl) dX6_stallComes_54 ⟨Nat.le_refl _, Nat.le_refl _⟩ (fun H locs hP hS => ?_)
  refine lv_aload_n hx hb dX6_stallComes_57 rfl (lv_at hl 1 rfl) ?_
  refine lv_iload hx hb dX6_stallComes_58 (lv_at hl 0 rfl) ?_
  refine lv_bipush (v := nI 6) hx hb dX6_stallComes_60 (by decide) ?_
  refine lv_iconst (v := nI 0) hx hb dX6_stallComes_62 (by decide) ?_
  refine md_cV0 (As := [.int (nI n), .int (nI 6), .int (nI 0)]) (rest := []) hx hb hown htg hK hI hS hP hml hl.1 (m6_lay l D ct ad _ _ _ _ n 6 (nI 0) (by omega) (by omega)) cw_X6_78 rfl rfl ⟨Nat.le_of_ble_eq_true rfl, Nat.le_of_ble_eq_true rfl⟩ (Nat.le_of_ble_eq_true rfl) dX6_stallComes_63 ⟨Nat.le_refl _, Nat.le_refl _⟩ (fun H locs hP hS => ?_)
  refine lv_aload_n hx hb dX6_stallComes_66 rfl (lv_at hl 1 rfl) ?_
  refine lv_iload hx hb dX6_stallComes_67 (lv_at hl 0 rfl) ?_
  refine lv_bipush (v := nI 7) hx hb dX6_stallComes_69 (by decide) ?_
  refine lv_iconst (v := nI 0) hx hb dX6_stallComes_71 (by decide) ?_
  refine md_cV0 (As := [.int (nI n), .int (nI 7), .int (nI 0)]) (rest := []) hx hb hown htg hK hI hS hP hml hl.1 (m6_lay l D ct ad _ _ _ _ n 7 (nI 0) (by omega) (by omega)) cw_X6_78 rfl rfl ⟨Nat.le_of_ble_eq_true rfl, Nat.le_of_ble_eq_true rfl⟩ (Nat.le_of_ble_eq_true rfl) dX6_stallComes_72 ⟨Nat.le_refl _, Nat.le_refl _⟩ (fun H locs hP hS => ?_)
  refine lv_aload_n hx hb dX6_stallComes_75 rfl (lv_at hl 1 rfl) ?_
  refine md_g1 hx hb hown htg hK hP dX6_stallComes_76 ?_
  refine lv_iconst (v := nI 4) hx hb dX6_stallComes_79 (by decide) ?_
  refine lv_dup2_11 hx hb dX6_stallComes_80 rfl rfl ?_
  refine md_l1 hx hb hK hP (by omega) dX6_stallComes_81 ?_
  refine lv_teq (zW_upd (zW_upd (zW_upd (zW_upd (zW_upd (zW_upd (zW_upd (zW_upd hw (by omega) (fun _ _ => by omega) (fun _ _ => by omega)) (by omega) (fun _ _ => by omega) (fun _ _ => by omega)) (by omega) (fun _ _ => by omega) (fun _ _ => by omega)) (by omega) (fun _ _ => by omega) (fun _ _ => by omega)) (by omega) (fun _ _ => by omega) (fun _ _ => by omega)) (by omega) (fun _ _ => by omega) (fun _ _ => by omega)) (by omega) (fun _ _ => by omega) (fun _ _ => by omega)) (by omega) (fun _ _ => by omega) (fun _ _ => by omega)).2.1 ?_
  refine lv_iconst (v := nI 1) hx hb dX6_stallComes_82 (by decide) ?_
  refine lv_iaddN hx hb dX6_stallComes_83 ?_
  refine md_s1 hx hb hK hI hS hP (by omega) dX6_stallComes_84 (fun H locs hP hS => ?_)
  refine lv_iload hx hb dX6_stallComes_85 (lv_at hl 0 rfl) ?_
  refine fr_iret hx hb hr hlocks hK hI hS rfl dX6_stallComes_87 ?_ ?_
  · exact rfl
  · refine fP.eqc (congrArg (fun v9 => mdc ct ad v9 g hs F) (show (comeZ Z n a0 a1 a2 a3) = (upd (upd (upd (upd (upd (upd (upd (upd (upd Z (39 + 8 * n + 0) a0) (39 + 8 * n + 1) a1) (39 + 8 * n + 2) a2) (39 + 8 * n + 3) a3) (39 + 8 * n + 4) (-1)) (39 + 8 * n + 5) (nI 0)) (39 + 8 * n + 6) (nI 0)) (39 + 8 * n + 7) (nI 0)) 4 (nI (n + 1))) from by rfl).symm) ?_
    exact hP
set_option maxRecDepth 100000 in
set_option maxHeartbeats 4000000 in
theorem m6_save (l : Launch) (D : va_G) (ct : Nat → ClassId) (ad : Nat → Nat) (Z g : Nat → Int32) (hs : Int64) (F : Nat → Nat → Int32)  (q : Nat)  (hg : g 3 = nI q) (hq : q ≤ 6) : FMet l yX6_save cX6_save 2 (none : Option Jvm.ClassFile.FieldType) 0 0 D ct 8 ad [.ref (ad 0)] (mdc ct ad Z g hs F) none (mdc ct ad Z (upd g 3 (nI (svn q))) hs (va_up F 2 (svf (F 2) Z q))) := by
  refine FMet.of (by decide +kernel) (Nat.le_of_ble_eq_true rfl) ?_
  intro p e s m args below meth c ls hx hb hr hml hown hlocks htg hK hI hP hS hl
  have hl : lv_has ls 2 [(0, .ref (ad 0))] := hl
  refine lv_aload_n hx hb dX6_save_0 rfl (lv_at hl 0 rfl) ?_
  refine md_g3 (v := g 3) hx hb hown htg hK hP rfl dX6_save_1 ?_
  refine lv_teq hg ?_
  refine lv_bipush (v := nI 6) hx hb dX6_save_4 (by decide) ?_
  refine lv_icmp_neN (tgt := 49) hx hb (by omega) (by omega) dX6_save_6 (by decide) (fun c6 => ?_) (fun c6 => ?_)
  · refine lv_iconst (v := nI 0) hx hb dX6_save_49 (by decide) ?_
    refine lv_istore_n (lv' := [(1, .int (nI 0)), (0, .ref (ad 0))]) hx hb dX6_save_50 rfl hl (by decide) rfl (fun ls hl => ?_)
    have lp51 : ∀ (fu51 : Nat) (i : Nat), i ≤ 119 → 119 - i < fu51 → ∀ (H : Heap) (locs : List Loc), fP D 8 ad (mdc ct ad Z g hs (va_up F 2 (cpo Z (F 2) (q * 119) i))) H → va_S (fA 8 ad) s.heap H locs → ∀ (ls : Array Slot), lv_has ls 2 [(1, .int (nI i)), (0, .ref (ad 0))] → W p l e ({ frames := 0, cells := 0, slots := 0, locals := 0 }) s m args below meth c H locs 0 0 (MQ below (fQ D ct 8 ad none (mdc ct ad Z (upd g 3 (nI (svn q))) hs (va_up F 2 (svf (F 2) Z q)))) args s 0 0 (fA 8 ad)) (F0 m 51 ls []) := by
      intro fu51
      induction fu51 with
      | zero => intro i hi hfu51; exact absurd hfu51 (Nat.not_lt_zero _)
      | succ fu51 ih51 =>
        intro i hi hfu51 H locs hP hS ls hl
        refine lv_iload_n hx hb dX6_save_51 rfl (lv_at hl 0 rfl) ?_
        refine lv_bipush (v := nI 119) hx hb dX6_save_52 (by decide) ?_
        refine lv_icmp_geN (tgt := 83) hx hb (by omega) (by omega) dX6_save_54 (by decide) (fun c54 => ?_) (fun c54 => ?_)
        · obtain rfl : i = 119 := by omega
          refine lv_aload_n hx hb dX6_save_83 rfl (lv_at hl 1 rfl) ?_
          refine lv_dup hx hb dX6_save_84 rfl ?_
          refine md_g3 (v := g 3) hx hb hown htg hK hP rfl dX6_save_85 ?_
          refine lv_teq hg ?_
          refine lv_iconst (v := nI 1) hx hb dX6_save_88 (by decide) ?_
          refine lv_iaddN hx hb dX6_save_89 ?_
          refine md_p3 hx hb hown htg hK hI hS hP dX6_save_90 (fun H locs hP hS => ?_)
          refine fr_vret hx hb hr hlocks hK hI hS dX6_save_93 ?_
          refine fP.eqc (congrArg (fun v9 => mdc ct ad Z v9 hs (va_up F 2 (svf (F 2) Z q))) (show (upd g 3 (nI (svn q))) = (upd g 3 (nI (q + 1))) from by first | (simp only [svf, svn, c6, if_false]; done) | (subst c6; simp only [svf, svn, if_true, va_up_up, upd_upd]; done) | (subst c6; simp only [svf, svn, if_true, va_up_up, upd_upd]; rfl)).symm) ?_
          refine fP.eqc (congrArg (fun v9 => mdc ct ad Z (upd g 3 (nI (q + 1))) hs v9) (show (va_up F 2 (svf (F 2) Z q)) = (va_up F 2 (cpo Z (F 2) (q * 119) 119)) from by first | (simp only [svf, svn, c6, if_false]; done) | (subst c6; simp only [svf, svn, if_true, va_up_up, upd_upd]; done) | (subst c6; simp only [svf, svn, if_true, va_up_up, upd_upd]; rfl)).symm) ?_
          exact hP
        · refine lv_aload_n hx hb dX6_save_57 rfl (lv_at hl 1 rfl) ?_
          refine md_g2 hx hb hown htg hK hP dX6_save_58 ?_
          refine lv_aload_n hx hb dX6_save_61 rfl (lv_at hl 1 rfl) ?_
          refine md_g3 (v := g 3) hx hb hown htg hK hP rfl dX6_save_62 ?_
          refine lv_teq hg ?_
          refine lv_bipush (v := nI 119) hx hb dX6_save_65 (by decide) ?_
          refine lv_imulN hx hb dX6_save_67 ?_
          refine lv_iload_n hx hb dX6_save_68 rfl (lv_at hl 0 rfl) ?_
          refine lv_iaddN hx hb dX6_save_69 ?_
          refine lv_aload_n hx hb dX6_save_70 rfl (lv_at hl 1 rfl) ?_
          refine md_g1 hx hb hown htg hK hP dX6_save_71 ?_
          refine lv_iload_n hx hb dX6_save_74 rfl (lv_at hl 0 rfl) ?_
          refine md_l1 hx hb hK hP (by omega) dX6_save_75 ?_
          refine md_s2 hx hb hK hI hS hP (by omega) dX6_save_76 (fun H locs hP hS => ?_)
          refine lv_iinc (v := nI (i + 1)) (lv' := [(1, .int (nI (i + 1))), (0, .ref (ad 0))]) hx hb dX6_save_77 hl (k := 0) rfl (nI_add i 1) (by decide) rfl (fun ls hl => ?_)
          refine lv_goto (tgt := 51) hx hb dX6_save_80 (by decide) ?_
          have hl := lv_sub (l' := [(1, .int (nI (i + 1))), (0, .ref (ad 0))]) hl [0, 1] rfl
          have hP := fP.eqc (congrArg (fun v9 => mdc ct ad Z g hs v9) (show (va_up (va_up F 2 (cpo Z (F 2) (q * 119) i)) 2 (upd (cpo Z (F 2) (q * 119) i) (q * 119 + i) (Z i))) = (va_up F 2 (cpo Z (F 2) (q * 119) (i + 1))) from by exact (va_up_up _ _ _ _).trans (congrArg (va_up F 2) (cpo_s Z (F 2) (q * 119) i)))) hP
          exact ih51 (i + 1) (by omega) (by omega) _ _ hP hS _ hl
    have hl := lv_sub (l' := [(1, .int (nI 0)), (0, .ref (ad 0))]) hl [0, 1] rfl
    have hP := fP.eqc (congrArg (fun v9 => mdc ct ad Z g hs v9) (show F = (va_up F 2 (cpo Z (F 2) (q * 119) 0)) from by rw [cpo_0]; first | rw [va_up_id] | rw [va_up_up])) hP
    exact lp51 (119 - 0 + 1) 0 (by omega) (Nat.lt_succ_self _) _ _ hP hS _ hl
  · refine lv_iconst (v := nI 0) hx hb dX6_save_9 (by decide) ?_
    refine lv_istore_n (lv' := [(1, .int (nI 0)), (0, .ref (ad 0))]) hx hb dX6_save_10 rfl hl (by decide) rfl (fun ls hl => ?_)
    have lp11 : ∀ (fu11 : Nat) (i : Nat), i ≤ 595 → 595 - i < fu11 → ∀ (H : Heap) (locs : List Loc), fP D 8 ad (mdc ct ad Z g hs (va_up F 2 (shf (F 2) i))) H → va_S (fA 8 ad) s.heap H locs → ∀ (ls : Array Slot), lv_has ls 2 [(1, .int (nI i)), (0, .ref (ad 0))] → W p l e ({ frames := 0, cells := 0, slots := 0, locals := 0 }) s m args below meth c H locs 0 0 (MQ below (fQ D ct 8 ad none (mdc ct ad Z (upd g 3 (nI (svn q))) hs (va_up F 2 (svf (F 2) Z q)))) args s 0 0 (fA 8 ad)) (F0 m 11 ls []) := by
      intro fu11
      induction fu11 with
      | zero => intro i hi hfu11; exact absurd hfu11 (Nat.not_lt_zero _)
      | succ fu11 ih11 =>
        intro i hi hfu11 H locs hP hS ls hl
        refine lv_iload_n hx hb dX6_save_11 rfl (lv_at hl 0 rfl) ?_
        refine lv_sipush (v := nI 595) hx hb dX6_save_12 (by decide) ?_
        refine lv_icmp_geN (tgt := 39) hx hb (by omega) (by omega) dX6_save_15 (by decide) (fun c15 => ?_) (fun c15 => ?_)
        · obtain rfl : i = 595 := by omega
          refine lv_aload_n hx hb dX6_save_39 rfl (lv_at hl 1 rfl) ?_
          refine lv_dup hx hb dX6_save_40 rfl ?_
          refine md_g3 (v := g 3) hx hb hown htg hK hP rfl dX6_save_41 ?_
          refine lv_teq hg ?_
          refine lv_iconst (v := nI 1) hx hb dX6_save_44 (by decide) ?_
          refine lv_isubN hx hb (by omega) dX6_save_45 ?_
          refine md_p3 hx hb hown htg hK hI hS hP dX6_save_46 (fun H locs hP hS => ?_)
          refine lv_iconst (v := nI 0) hx hb dX6_save_49 (by decide) ?_
          refine lv_istore_n (lv' := [(1, .int (nI 0)), (0, .ref (ad 0))]) hx hb dX6_save_50 rfl hl (by decide) rfl (fun ls hl => ?_)
          have lp51 : ∀ (fu51 : Nat) (i : Nat), i ≤ 119 → 119 - i < fu51 → ∀ (H : Heap) (locs : List Loc), fP D 8 ad (mdc ct ad Z (upd g 3 (nI (q - 1))) hs (va_up (va_up F 2 (shf (F 2) 595)) 2 (cpo Z ((shf (F 2) 595)) ((q - 1) * 119) i))) H → va_S (fA 8 ad) s.heap H locs → ∀ (ls : Array Slot), lv_has ls 2 [(1, .int (nI i)), (0, .ref (ad 0))] → W p l e ({ frames := 0, cells := 0, slots := 0, locals := 0 }) s m args below meth c H locs 0 0 (MQ below (fQ D ct 8 ad none (mdc ct ad Z (upd g 3 (nI (svn q))) hs (va_up F 2 (svf (F 2) Z q)))) args s 0 0 (fA 8 ad)) (F0 m 51 ls []) := by
            intro fu51
            induction fu51 with
            | zero => intro i hi hfu51; exact absurd hfu51 (Nat.not_lt_zero _)
            | succ fu51 ih51 =>
              intro i hi hfu51 H locs hP hS ls hl
              refine lv_iload_n hx hb dX6_save_51 rfl (lv_at hl 0 rfl) ?_
              refine lv_bipush (v := nI 119) hx hb dX6_save_52 (by decide) ?_
              refine lv_icmp_geN (tgt := 83) hx hb (by omega) (by omega) dX6_save_54 (by decide) (fun c54 => ?_) (fun c54 => ?_)
              · obtain rfl : i = 119 := by omega
                refine lv_aload_n hx hb dX6_save_83 rfl (lv_at hl 1 rfl) ?_
                refine lv_dup hx hb dX6_save_84 rfl ?_
                refine md_g3 (v := nI (q - 1)) hx hb hown htg hK hP rfl dX6_save_85 ?_
                refine lv_iconst (v := nI 1) hx hb dX6_save_88 (by decide) ?_
                refine lv_iaddN hx hb dX6_save_89 ?_
                refine md_p3 hx hb hown htg hK hI hS hP dX6_save_90 (fun H locs hP hS => ?_)
                refine fr_vret hx hb hr hlocks hK hI hS dX6_save_93 ?_
                refine fP.eqc (congrArg (fun v9 => mdc ct ad Z v9 hs (va_up F 2 (svf (F 2) Z q))) (show (upd g 3 (nI (svn q))) = (upd (upd g 3 (nI (q - 1))) 3 (nI (q - 1 + 1))) from by first | (simp only [svf, svn, c6, if_false]; done) | (subst c6; simp only [svf, svn, if_true, va_up_up, upd_upd]; done) | (subst c6; simp only [svf, svn, if_true, va_up_up, upd_upd]; rfl)).symm) ?_
                refine fP.eqc (congrArg (fun v9 => mdc ct ad Z (upd (upd g 3 (nI (q - 1))) 3 (nI (q - 1 + 1))) hs v9) (show (va_up F 2 (svf (F 2) Z q)) = (va_up (va_up F 2 (shf (F 2) 595)) 2 (cpo Z ((shf (F 2) 595)) ((q - 1) * 119) 119)) from by first | (simp only [svf, svn, c6, if_false]; done) | (subst c6; simp only [svf, svn, if_true, va_up_up, upd_upd]; done) | (subst c6; simp only [svf, svn, if_true, va_up_up, upd_upd]; rfl)).symm) ?_
                exact hP
              · refine lv_aload_n hx hb dX6_save_57 rfl (lv_at hl 1 rfl) ?_
                refine md_g2 hx hb hown htg hK hP dX6_save_58 ?_
                refine lv_aload_n hx hb dX6_save_61 rfl (lv_at hl 1 rfl) ?_
                refine md_g3 (v := nI (q - 1)) hx hb hown htg hK hP rfl dX6_save_62 ?_
                refine lv_bipush (v := nI 119) hx hb dX6_save_65 (by decide) ?_
                refine lv_imulN hx hb dX6_save_67 ?_
                refine lv_iload_n hx hb dX6_save_68 rfl (lv_at hl 0 rfl) ?_
                refine lv_iaddN hx hb dX6_save_69 ?_
                refine lv_aload_n hx hb dX6_save_70 rfl (lv_at hl 1 rfl) ?_
                refine md_g1 hx hb hown htg hK hP dX6_save_71 ?_
                refine lv_iload_n hx hb dX6_save_74 rfl (lv_at hl 0 rfl) ?_
                refine md_l1 hx hb hK hP (by omega) dX6_save_75 ?_
                refine md_s2 hx hb hK hI hS hP (by omega) dX6_save_76 (fun H locs hP hS => ?_)
                refine lv_iinc (v := nI (i + 1)) (lv' := [(1, .int (nI (i + 1))), (0, .ref (ad 0))]) hx hb dX6_save_77 hl (k := 0) rfl (nI_add i 1) (by decide) rfl (fun ls hl => ?_)
                refine lv_goto (tgt := 51) hx hb dX6_save_80 (by decide) ?_
                have hl := lv_sub (l' := [(1, .int (nI (i + 1))), (0, .ref (ad 0))]) hl [0, 1] rfl
                have hP := fP.eqc (congrArg (fun v9 => mdc ct ad Z (upd g 3 (nI (q - 1))) hs v9) (show (va_up (va_up (va_up F 2 (shf (F 2) 595)) 2 (cpo Z ((shf (F 2) 595)) ((q - 1) * 119) i)) 2 (upd ((va_up (va_up F 2 (shf (F 2) 595)) 2 (cpo Z ((shf (F 2) 595)) ((q - 1) * 119) i)) 2) ((q - 1) * 119 + i) (Z i))) = (va_up (va_up F 2 (shf (F 2) 595)) 2 (cpo Z ((shf (F 2) 595)) ((q - 1) * 119) (i + 1))) from by exact (va_up_up _ _ _ _).trans (congrArg (va_up (va_up F 2 (shf (F 2) 595)) 2) (cpo_s Z ((shf (F 2) 595)) ((q - 1) * 119) i)))) hP
                exact ih51 (i + 1) (by omega) (by omega) _ _ hP hS _ hl
          have hl := lv_sub (l' := [(1, .int (nI 0)), (0, .ref (ad 0))]) hl [0, 1] rfl
          have hP := fP.eqc (congrArg (fun v9 => mdc ct ad Z (upd g 3 (nI (q - 1))) hs v9) (show (va_up F 2 (shf (F 2) 595)) = (va_up (va_up F 2 (shf (F 2) 595)) 2 (cpo Z ((shf (F 2) 595)) ((q - 1) * 119) 0)) from by rw [cpo_0]; first | rw [va_up_id] | rw [va_up_up])) hP
          exact lp51 (119 - 0 + 1) 0 (by omega) (Nat.lt_succ_self _) _ _ hP hS _ hl
        · refine lv_aload_n hx hb dX6_save_18 rfl (lv_at hl 1 rfl) ?_
          refine md_g2 hx hb hown htg hK hP dX6_save_19 ?_
          refine lv_iload_n hx hb dX6_save_22 rfl (lv_at hl 0 rfl) ?_
          refine lv_aload_n hx hb dX6_save_23 rfl (lv_at hl 1 rfl) ?_
          refine md_g2 hx hb hown htg hK hP dX6_save_24 ?_
          refine lv_iload_n hx hb dX6_save_27 rfl (lv_at hl 0 rfl) ?_
          refine lv_bipush (v := nI 119) hx hb dX6_save_28 (by decide) ?_
          refine lv_iaddN hx hb dX6_save_30 ?_
          refine md_l2 hx hb hK hP (by omega) dX6_save_31 ?_
          refine md_s2 hx hb hK hI hS hP (by omega) dX6_save_32 (fun H locs hP hS => ?_)
          refine lv_iinc (v := nI (i + 1)) (lv' := [(1, .int (nI (i + 1))), (0, .ref (ad 0))]) hx hb dX6_save_33 hl (k := 0) rfl (nI_add i 1) (by decide) rfl (fun ls hl => ?_)
          refine lv_goto (tgt := 11) hx hb dX6_save_36 (by decide) ?_
          have hl := lv_sub (l' := [(1, .int (nI (i + 1))), (0, .ref (ad 0))]) hl [0, 1] rfl
          have hP := fP.eqc (congrArg (fun v9 => mdc ct ad Z g hs v9) (show (va_up (va_up F 2 (shf (F 2) i)) 2 (upd (shf (F 2) i) i ((shf (F 2) i) (i + 119)))) = (va_up F 2 (shf (F 2) (i + 1))) from by exact (va_up_up _ _ _ _).trans (congrArg (va_up F 2) (shf_s (F 2) i)))) hP
          exact ih11 (i + 1) (by omega) (by omega) _ _ hP hS _ hl
    have hl := lv_sub (l' := [(1, .int (nI 0)), (0, .ref (ad 0))]) hl [0, 1] rfl
    have hP := fP.eqc (congrArg (fun v9 => mdc ct ad Z g hs v9) (show F = (va_up F 2 (shf (F 2) 0)) from by rw [shf_0, va_up_id])) hP
    exact lp11 (595 - 0 + 1) 0 (by omega) (Nat.lt_succ_self _) _ _ hP hS _ hl
set_option maxRecDepth 100000 in
set_option maxHeartbeats 4000000 in
theorem m6_putAside (l : Launch) (D : va_G) (ct : Nat → ClassId) (ad : Nat → Nat) (Z g : Nat → Int32) (hs : Int64) (F : Nat → Nat → Int32)     : FMet l yX6_putAside cX6_putAside 2 (none : Option Jvm.ClassFile.FieldType) 0 0 D ct 8 ad [.ref (ad 0)] (mdc ct ad Z g hs F) none (mdc ct ad Z g hs (va_up F 5 Z)) := by
  refine FMet.of (by decide +kernel) (Nat.le_of_ble_eq_true rfl) ?_
  intro p e s m args below meth c ls hx hb hr hml hown hlocks htg hK hI hP hS hl
  have hl : lv_has ls 2 [(0, .ref (ad 0))] := hl
  refine lv_iconst (v := nI 0) hx hb dX6_putAside_0 (by decide) ?_
  refine lv_istore_n (lv' := [(1, .int (nI 0)), (0, .ref (ad 0))]) hx hb dX6_putAside_1 rfl hl (by decide) rfl (fun ls hl => ?_)
  have lp2 : ∀ (fu2 : Nat) (i : Nat), i ≤ 119 → 119 - i < fu2 → ∀ (H : Heap) (locs : List Loc), fP D 8 ad (mdc ct ad Z g hs (va_up F 5 (cpo Z (F 5) 0 i))) H → va_S (fA 8 ad) s.heap H locs → ∀ (ls : Array Slot), lv_has ls 2 [(1, .int (nI i)), (0, .ref (ad 0))] → W p l e ({ frames := 0, cells := 0, slots := 0, locals := 0 }) s m args below meth c H locs 0 0 (MQ below (fQ D ct 8 ad none (mdc ct ad Z g hs (va_up F 5 Z))) args s 0 0 (fA 8 ad)) (F0 m 2 ls []) := by
    intro fu2
    induction fu2 with
    | zero => intro i hi hfu2; exact absurd hfu2 (Nat.not_lt_zero _)
    | succ fu2 ih2 =>
      intro i hi hfu2 H locs hP hS ls hl
      refine lv_iload_n hx hb dX6_putAside_2 rfl (lv_at hl 0 rfl) ?_
      refine lv_bipush (v := nI 119) hx hb dX6_putAside_3 (by decide) ?_
      refine lv_icmp_geN (tgt := 26) hx hb (by omega) (by omega) dX6_putAside_5 (by decide) (fun c5 => ?_) (fun c5 => ?_)
      · obtain rfl : i = 119 := by omega
        refine fr_vret hx hb hr hlocks hK hI hS dX6_putAside_26 ?_
        exact md_ext hP (fun _ _ => rfl) (fun _ _ => rfl) (fun _ _ => rfl) (fun _ _ => rfl) (fun j hj => if_pos ⟨Nat.zero_le _, by omega⟩) (fun _ _ => rfl) (fun _ _ => rfl)
      · refine lv_aload_n hx hb dX6_putAside_8 rfl (lv_at hl 1 rfl) ?_
        refine md_g6 hx hb hown htg hK hP dX6_putAside_9 ?_
        refine lv_iload_n hx hb dX6_putAside_12 rfl (lv_at hl 0 rfl) ?_
        refine lv_aload_n hx hb dX6_putAside_13 rfl (lv_at hl 1 rfl) ?_
        refine md_g1 hx hb hown htg hK hP dX6_putAside_14 ?_
        refine lv_iload_n hx hb dX6_putAside_17 rfl (lv_at hl 0 rfl) ?_
        refine md_l1 hx hb hK hP (by omega) dX6_putAside_18 ?_
        refine md_s5 hx hb hK hI hS hP (by omega) dX6_putAside_19 (fun H locs hP hS => ?_)
        refine lv_iinc (v := nI (i + 1)) (lv' := [(1, .int (nI (i + 1))), (0, .ref (ad 0))]) hx hb dX6_putAside_20 hl (k := 0) rfl (nI_add i 1) (by decide) rfl (fun ls hl => ?_)
        refine lv_goto (tgt := 2) hx hb dX6_putAside_23 (by decide) ?_
        have hl := lv_sub (l' := [(1, .int (nI (i + 1))), (0, .ref (ad 0))]) hl [0, 1] rfl
        have hP := fP.eqc (congrArg (fun v9 => mdc ct ad Z g hs v9) (show (va_up (va_up F 5 (cpo Z (F 5) 0 i)) 5 (upd (cpo Z (F 5) 0 i) i (Z i))) = (va_up F 5 (cpo Z (F 5) 0 (i + 1))) from by have h9 := cpo_s Z (F 5) 0 i; rw [Nat.zero_add] at h9; exact (va_up_up _ _ _ _).trans (congrArg (va_up F 5) h9))) hP
        exact ih2 (i + 1) (by omega) (by omega) _ _ hP hS _ hl
  have hl := lv_sub (l' := [(1, .int (nI 0)), (0, .ref (ad 0))]) hl [0, 1] rfl
  have hP := fP.eqc (congrArg (fun v9 => mdc ct ad Z g hs v9) (show F = (va_up F 5 (cpo Z (F 5) 0 0)) from by rw [cpo_0]; first | rw [va_up_id] | rw [va_up_up])) hP
  exact lp2 (119 - 0 + 1) 0 (by omega) (Nat.lt_succ_self _) _ _ hP hS _ hl
set_option maxRecDepth 100000 in
set_option maxHeartbeats 4000000 in
theorem m6_bringBack (l : Launch) (D : va_G) (ct : Nat → ClassId) (ad : Nat → Nat) (Z g : Nat → Int32) (hs : Int64) (F : Nat → Nat → Int32)     : FMet l yX6_bringBack cX6_bringBack 2 (none : Option Jvm.ClassFile.FieldType) 0 0 D ct 8 ad [.ref (ad 0)] (mdc ct ad Z g hs F) none (mdc ct ad (F 5) g hs F) := by
  refine FMet.of (by decide +kernel) (Nat.le_of_ble_eq_true rfl) ?_
  intro p e s m args below meth c ls hx hb hr hml hown hlocks htg hK hI hP hS hl
  have hl : lv_has ls 2 [(0, .ref (ad 0))] := hl
  refine lv_iconst (v := nI 0) hx hb dX6_bringBack_0 (by decide) ?_
  refine lv_istore_n (lv' := [(1, .int (nI 0)), (0, .ref (ad 0))]) hx hb dX6_bringBack_1 rfl hl (by decide) rfl (fun ls hl => ?_)
  have lp2 : ∀ (fu2 : Nat) (i : Nat), i ≤ 119 → 119 - i < fu2 → ∀ (H : Heap) (locs : List Loc), fP D 8 ad (mdc ct ad (cpo (F 5) Z 0 i) g hs F) H → va_S (fA 8 ad) s.heap H locs → ∀ (ls : Array Slot), lv_has ls 2 [(1, .int (nI i)), (0, .ref (ad 0))] → W p l e ({ frames := 0, cells := 0, slots := 0, locals := 0 }) s m args below meth c H locs 0 0 (MQ below (fQ D ct 8 ad none (mdc ct ad (F 5) g hs F)) args s 0 0 (fA 8 ad)) (F0 m 2 ls []) := by
    intro fu2
    induction fu2 with
    | zero => intro i hi hfu2; exact absurd hfu2 (Nat.not_lt_zero _)
    | succ fu2 ih2 =>
      intro i hi hfu2 H locs hP hS ls hl
      refine lv_iload_n hx hb dX6_bringBack_2 rfl (lv_at hl 0 rfl) ?_
      refine lv_bipush (v := nI 119) hx hb dX6_bringBack_3 (by decide) ?_
      refine lv_icmp_geN (tgt := 26) hx hb (by omega) (by omega) dX6_bringBack_5 (by decide) (fun c5 => ?_) (fun c5 => ?_)
      · obtain rfl : i = 119 := by omega
        refine fr_vret hx hb hr hlocks hK hI hS dX6_bringBack_26 ?_
        exact md_ext hP (fun j hj => if_pos ⟨Nat.zero_le _, by omega⟩) (fun _ _ => rfl) (fun _ _ => rfl) (fun _ _ => rfl) (fun _ _ => rfl) (fun _ _ => rfl) (fun _ _ => rfl)
      · refine lv_aload_n hx hb dX6_bringBack_8 rfl (lv_at hl 1 rfl) ?_
        refine md_g1 hx hb hown htg hK hP dX6_bringBack_9 ?_
        refine lv_iload_n hx hb dX6_bringBack_12 rfl (lv_at hl 0 rfl) ?_
        refine lv_aload_n hx hb dX6_bringBack_13 rfl (lv_at hl 1 rfl) ?_
        refine md_g6 hx hb hown htg hK hP dX6_bringBack_14 ?_
        refine lv_iload_n hx hb dX6_bringBack_17 rfl (lv_at hl 0 rfl) ?_
        refine md_l5 hx hb hK hP (by omega) dX6_bringBack_18 ?_
        refine md_s1 hx hb hK hI hS hP (by omega) dX6_bringBack_19 (fun H locs hP hS => ?_)
        refine lv_iinc (v := nI (i + 1)) (lv' := [(1, .int (nI (i + 1))), (0, .ref (ad 0))]) hx hb dX6_bringBack_20 hl (k := 0) rfl (nI_add i 1) (by decide) rfl (fun ls hl => ?_)
        refine lv_goto (tgt := 2) hx hb dX6_bringBack_23 (by decide) ?_
        have hl := lv_sub (l' := [(1, .int (nI (i + 1))), (0, .ref (ad 0))]) hl [0, 1] rfl
        have hP := fP.eqc (congrArg (fun v9 => mdc ct ad v9 g hs F) (show (upd (cpo (F 5) Z 0 i) i ((F 5) i)) = (cpo (F 5) Z 0 (i + 1)) from by have h9 := cpo_s (F 5) Z 0 i; rw [Nat.zero_add] at h9; exact h9)) hP
        exact ih2 (i + 1) (by omega) (by omega) _ _ hP hS _ hl
  have hl := lv_sub (l' := [(1, .int (nI 0)), (0, .ref (ad 0))]) hl [0, 1] rfl
  have hP := fP.eqc (congrArg (fun v9 => mdc ct ad v9 g hs F) (show Z = (cpo (F 5) Z 0 0) from by rw [cpo_0])) hP
  exact lp2 (119 - 0 + 1) 0 (by omega) (Nat.lt_succ_self _) _ _ hP hS _ hl
