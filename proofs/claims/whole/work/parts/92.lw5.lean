/-! THE LAW: its loop -/
theorem nI_ad9 {a b : Nat} : nI a + nI b = nI (a + b) := (Int32.ofNat_add a b).symm
theorem and31 (x : Int32) : ∃ j, j ≤ 31 ∧ x &&& nI 31 = nI j := by
  refine ⟨(x.toBitVec &&& (31#32)).toNat, ?_, ?_⟩
  · rw [BitVec.toNat_and]
    exact Nat.and_le_right
  · apply Int32.toBitVec_inj.mp
    apply BitVec.eq_of_toNat_eq
    have h1 : (nI (x.toBitVec &&& (31#32)).toNat).toBitVec = BitVec.ofNat 32 (x.toBitVec &&& (31#32)).toNat := rfl
    rw [h1, BitVec.toNat_ofNat, Nat.mod_eq_of_lt (BitVec.isLt _)]
    rfl
section LOOP
variable {p : Program} {l : Launch} {e : Env} {s : State} {m : MethodId} {args : Array Value} {below : List Frame} {meth : Method} {c : Code} {Q : State → Prop}
variable {D : va_G} {ct : Nat → ClassId} {cL : ClassId} {ad ad6 : Nat → Nat} {b L : Nat} {xs : Nat → Int32}
set_option maxRecDepth 100000 in
set_option maxHeartbeats 4000000 in
theorem law_loop (hlt : l.stackTraces = false) (hx : p.tables.exec = Jvm.exec) (hb : c.code = cL_law) (hml : c.maxLocals = 9) (hown : s.vm.findClass RL = some m.cls) (htg : ∀ w ∈ wB, w.before args s = true) (hF : LF D ct cL ad ad6 s) (hX : va_X b L xs s s.heap) (hbl : b < s.heap.size) (hL : L ≤ 2560) (hend : ∀ (H : Heap) (locs : List Loc) (ls : Array Slot), va_S (lA s) s.heap H locs → W p l e room_1 s m args below meth c H locs 601024 7293034 Q (F0 m 1656 ls [.int 1])) :
    ∀ f t, L < 5 * t + 5 * f + 5 → 5 * t ≤ 2560 → ∀ (H : Heap) (locs : List Loc) (ce ce6 : Nat → va_E) (v : Int64) (ls : Array Slot), CS ct ad ad6 ce ce6 → LW D cL ad ad6 ce v ce6 H → va_S (lA s) s.heap H locs → lv_has ls 9 (lb b ad ad6 (5 * t)) → W p l e room_1 s m args below meth c H locs (207 + t) (2975 + 6 * t) Q (F0 m 23 ls []) := by
  intro f
  induction f with
  | zero =>
    intro t hf ht H locs ce ce6 v ls hC hP hS hl
    refine lv_iload hx hb dL_law_23 (lv_at hl 0 rfl) ?_
    refine lv_aload_n hx hb dL_law_25 rfl (lv_at hl 1 rfl) ?_
    refine va_slen hx hb hX hbl (Nat.not_le.mpr hbl) hS dL_law_26 ?_
    refine lv_iconst (v := nI 5) hx hb dL_law_27 (by decide) ?_
    refine lv_isub hx hb dL_law_28 ?_
    refine lv_icmp_gt (tgt := 1655) hx hb dL_law_29 rfl (fun _ => ?_) (fun h => absurd ((lt_len (by omega) hL).mpr (by omega)) h)
    refine lv_iconst (v := 1) hx hb dL_law_1655 rfl ?_
    exact W_wide (by omega) (by omega) (hend H locs ls hS)
  | succ f ih =>
    intro t hf ht H locs ce ce6 v ls hC hP hS hl
    refine lv_iload hx hb dL_law_23 (lv_at hl 0 rfl) ?_
    refine lv_aload_n hx hb dL_law_25 rfl (lv_at hl 1 rfl) ?_
    refine va_slen hx hb hX hbl (Nat.not_le.mpr hbl) hS dL_law_26 ?_
    refine lv_iconst (v := nI 5) hx hb dL_law_27 (by decide) ?_
    refine lv_isub hx hb dL_law_28 ?_
    refine lv_icmp_gt (tgt := 1655) hx hb dL_law_29 rfl (fun _ => ?_) (fun h => ?_)
    · refine lv_iconst (v := 1) hx hb dL_law_1655 rfl ?_
      exact W_wide (by omega) (by omega) (hend H locs ls hS)
    have hi : 5 * t + 5 ≤ L := Nat.le_of_not_lt (fun q => h ((lt_len (by omega) hL).mpr q))
    have kk : LK p l e room_1 s m args below meth c Q D ct cL ad ad6 b (5 * t) (207 + t + 1) (2975 + 6 * t + 6) := by
      intro H locs ce ce6 v ls hC hP hS hl
      refine lv_iinc (k := 0) (v := nI (5 * (t + 1))) (lv' := lb b ad ad6 (5 * (t + 1))) hx hb dL_law_1649 hl rfl (by show nI (5 * t) + nI 5 = _; rw [nI_ad9]; congr 1) (by decide) rfl (fun ls hl => ?_)
      refine lv_goto (tgt := 23) hx hb dL_law_1652 rfl ?_
      exact ih (t + 1) (by omega) (by omega) H locs ce ce6 v ls hC hP hS hl
    have hf9 : 207 + t + 1 ≤ room_1.cells ∧ 2975 + 6 * t + 6 ≤ room_1.slots := ⟨by show 207 + t + 1 ≤ 601024; omega, by show 2975 + 6 * t + 6 ≤ 7293034; omega⟩
    refine lv_aload_n hx hb dL_law_32 rfl (lv_at hl 1 rfl) ?_
    refine lv_iload hx hb dL_law_33 (lv_at hl 0 rfl) ?_
    refine ls_ld (i := 5 * t) (j := 0) hx hb hX hbl hS (by omega) hL dL_law_35 ?_
    refine lv_bipush (v := nI 31) hx hb dL_law_36 (by decide) ?_
    refine lv_iand hx hb dL_law_38 ?_
    obtain ⟨j, hj, ej⟩ := and31 (xs (5 * t + 0))
    rw [ej]
    by_cases cj : j < 27
    · rcases (show j = 0 ∨ j = 1 ∨ j = 2 ∨ j = 3 ∨ j = 4 ∨ j = 5 ∨ j = 6 ∨ j = 7 ∨ j = 8 ∨ j = 9 ∨ j = 10 ∨ j = 11 ∨ j = 12 ∨ j = 13 ∨ j = 14 ∨ j = 15 ∨ j = 16 ∨ j = 17 ∨ j = 18 ∨ j = 19 ∨ j = 20 ∨ j = 21 ∨ j = 22 ∨ j = 23 ∨ j = 24 ∨ j = 25 ∨ j = 26 by omega) with rfl | rfl | rfl | rfl | rfl | rfl | rfl | rfl | rfl | rfl | rfl | rfl | rfl | rfl | rfl | rfl | rfl | rfl | rfl | rfl | rfl | rfl | rfl | rfl | rfl | rfl | rfl
      · refine lv_tableIn (off := 121) (tgt := 160) hx hb dL_law_39 (by decide) (by decide) (by decide) rfl ?_
        exact lc_stall hlt hx hb hml hown htg hF hX hbl hL hi hC hP hS hl hf9 kk
      · refine lv_tableIn (off := 213) (tgt := 252) hx hb dL_law_39 (by decide) (by decide) (by decide) rfl ?_
        exact lc_plug hlt hx hb hml hown htg hF hX hbl hL hi hC hP hS hl hf9 kk
      · refine lv_tableIn (off := 281) (tgt := 320) hx hb dL_law_39 (by decide) (by decide) (by decide) rfl ?_
        exact lc_pull hlt hx hb hml hown htg hF hX hbl hL hi hC hP hS hl hf9 kk
      · refine lv_tableIn (off := 337) (tgt := 376) hx hb dL_law_39 (by decide) (by decide) (by decide) rfl ?_
        exact lc_shed hlt hx hb hml hown htg hF hX hbl hL hi hC hP hS hl hf9 kk
      · refine lv_tableIn (off := 393) (tgt := 432) hx hb dL_law_39 (by decide) (by decide) (by decide) rfl ?_
        exact lc_bound hlt hx hb hml hown htg hF hX hbl hL hi hC hP hS hl hf9 kk
      · refine lv_tableIn (off := 461) (tgt := 500) hx hb dL_law_39 (by decide) (by decide) (by decide) rfl ?_
        exact lc_reset hlt hx hb hml hown htg hF hX hbl hL hi hC hP hS hl hf9 kk
      · refine lv_tableIn (off := 517) (tgt := 556) hx hb dL_law_39 (by decide) (by decide) (by decide) rfl ?_
        exact lc_over hlt hx hb hml hown htg hF hX hbl hL hi hC hP hS hl hf9 kk
      · refine lv_tableIn (off := 573) (tgt := 612) hx hb dL_law_39 (by decide) (by decide) (by decide) rfl ?_
        exact lc_pass hlt hx hb hml hown htg hF hX hbl hL hi hC hP hS hl hf9 kk
      · refine lv_tableIn (off := 629) (tgt := 668) hx hb dL_law_39 (by decide) (by decide) (by decide) rfl ?_
        exact lc_set hlt hx hb hml hown htg hF hX hbl hL hi hC hP hS hl hf9 kk
      · refine lv_tableIn (off := 697) (tgt := 736) hx hb dL_law_39 (by decide) (by decide) (by decide) rfl ?_
        exact lc_append hlt hx hb hml hown htg hF hX hbl hL hi hC hP hS hl hf9 kk
      · refine lv_tableIn (off := 753) (tgt := 792) hx hb dL_law_39 (by decide) (by decide) (by decide) rfl ?_
        exact lc_clearBuffer hlt hx hb hml hown htg hF hX hbl hL hi hC hP hS hl hf9 kk
      · refine lv_tableIn (off := 766) (tgt := 805) hx hb dL_law_39 (by decide) (by decide) (by decide) rfl ?_
        exact lc_firstError hlt hx hb hml hown htg hF hX hbl hL hi hC hP hS hl hf9 kk
      · refine lv_tableIn (off := 779) (tgt := 818) hx hb dL_law_39 (by decide) (by decide) (by decide) rfl ?_
        exact lc_open hlt hx hb hml hown htg hF hX hbl hL hi hC hP hS hl hf9 kk
      · refine lv_tableIn (off := 823) (tgt := 862) hx hb dL_law_39 (by decide) (by decide) (by decide) rfl ?_
        exact lc_keep hlt hx hb hml hown htg hF hX hbl hL hi hC hP hS hl hf9 kk
      · refine lv_tableIn (off := 879) (tgt := 918) hx hb dL_law_39 (by decide) (by decide) (by decide) rfl ?_
        exact lc_goBack hlt hx hb hml hown htg hF hX hbl hL hi hC hP hS hl hf9 kk
      · refine lv_tableIn (off := 935) (tgt := 974) hx hb dL_law_39 (by decide) (by decide) (by decide) rfl ?_
        exact lc_undo hlt hx hb hml hown htg hF hX hbl hL hi hC hP hS hl hf9 kk
      · refine lv_tableIn (off := 979) (tgt := 1018) hx hb dL_law_39 (by decide) (by decide) (by decide) rfl ?_
        exact lc_stallOf hlt hx hb hml hown htg hF hX hbl hL hi hC hP hS hl hf9 kk
      · refine lv_tableIn (off := 1047) (tgt := 1086) hx hb dL_law_39 (by decide) (by decide) (by decide) rfl ?_
        exact lc_breaker hlt hx hb hml hown htg hF hX hbl hL hi hC hP hS hl hf9 kk
      · refine lv_tableIn (off := 1115) (tgt := 1154) hx hb dL_law_39 (by decide) (by decide) (by decide) rfl ?_
        exact lc_socket hlt hx hb hml hown htg hF hX hbl hL hi hC hP hS hl hf9 kk
      · refine lv_tableIn (off := 1183) (tgt := 1222) hx hb dL_law_39 (by decide) (by decide) (by decide) rfl ?_
        exact lc_count hlt hx hb hml hown htg hF hX hbl hL hi hC hP hS hl hf9 kk
      · refine lv_tableIn (off := 1239) (tgt := 1278) hx hb dL_law_39 (by decide) (by decide) (by decide) rfl ?_
        exact lc_setting hlt hx hb hml hown htg hF hX hbl hL hi hC hP hS hl hf9 kk
      · refine lv_tableIn (off := 1295) (tgt := 1334) hx hb dL_law_39 (by decide) (by decide) (by decide) rfl ?_
        exact lc_ifPlugged hlt hx hb hml hown htg hF hX hbl hL hi hC hP hS hl hf9 kk
      · refine lv_tableIn (off := 1387) (tgt := 1426) hx hb dL_law_39 (by decide) (by decide) (by decide) rfl ?_
        exact lc_tripsIn hlt hx hb hml hown htg hF hX hbl hL hi hC hP hS hl hf9 kk
      · refine lv_tableIn (off := 1443) (tgt := 1482) hx hb dL_law_39 (by decide) (by decide) (by decide) rfl ?_
        exact lc_bestSocket hlt hx hb hml hown htg hF hX hbl hL hi hC hP hS hl hf9 kk
      · refine lv_tableIn (off := 1499) (tgt := 1538) hx hb dL_law_39 (by decide) (by decide) (by decide) rfl ?_
        exact lc_leastBound hlt hx hb hml hown htg hF hX hbl hL hi hC hP hS hl hf9 kk
      · refine lv_tableIn (off := 1555) (tgt := 1594) hx hb dL_law_39 (by decide) (by decide) (by decide) rfl ?_
        exact lc_servedShare hlt hx hb hml hown htg hF hX hbl hL hi hC hP hS hl hf9 kk
      · refine lv_tableIn (off := 1596) (tgt := 1635) hx hb dL_law_39 (by decide) (by decide) (by decide) rfl ?_
        exact lc_digest hlt hx hb hml hown htg hF hX hbl hL hi hC hP hS hl hf9 kk
    · refine lv_tableOut (tgt := 1649) hx hb dL_law_39 (Or.inr ?_) rfl ?_
      · rw [nI_toInt (by omega)]
        omega
      · exact W_wide (Nat.le_add_right _ _) (Nat.le_add_right _ _) (kk H locs ce ce6 v ls hC hP hS hl)
end LOOP
