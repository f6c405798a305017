/-! THE LAW: its cases -/
theorem co_L_92 : cwo RL 92 yL_stall cL_stall 7 [(0, 14, 17, 13), (0, 14, 21, 15)] 6 := ⟨wB_SW (xb (by decide +kernel) (by decide +kernel)) (xb (by decide +kernel) (by decide +kernel)) (xb (by decide +kernel) (by decide +kernel)) (xb (by decide +kernel) (by decide +kernel)), by decide +kernel, by decide +kernel, by decide +kernel⟩
theorem co_L_101 : cwo RL 101 yL_plug cL_plug 5 [(0, 10, 13, 21), (0, 10, 17, 13), (0, 10, 21, 15)] 4 := ⟨wB_SW (xb (by decide +kernel) (by decide +kernel)) (xb (by decide +kernel) (by decide +kernel)) (xb (by decide +kernel) (by decide +kernel)) (xb (by decide +kernel) (by decide +kernel)), by decide +kernel, by decide +kernel, by decide +kernel⟩
theorem co_L_105 : cwo RL 105 yL_pull cL_pull 4 [(0, 9, 12, 21), (0, 9, 15, 15)] 3 := ⟨wB_SW (xb (by decide +kernel) (by decide +kernel)) (xb (by decide +kernel) (by decide +kernel)) (xb (by decide +kernel) (by decide +kernel)) (xb (by decide +kernel) (by decide +kernel)), by decide +kernel, by decide +kernel, by decide +kernel⟩
theorem co_L_109 : cwo RL 109 yL_shed cL_shed 4 [(0, 9, 12, 21)] 3 := ⟨wB_SW (xb (by decide +kernel) (by decide +kernel)) (xb (by decide +kernel) (by decide +kernel)) (xb (by decide +kernel) (by decide +kernel)) (xb (by decide +kernel) (by decide +kernel)), by decide +kernel, by decide +kernel, by decide +kernel⟩
theorem co_L_112 : cwo RL 112 yL_bound cL_bound 5 [(0, 10, 13, 13)] 4 := ⟨wB_SW (xb (by decide +kernel) (by decide +kernel)) (xb (by decide +kernel) (by decide +kernel)) (xb (by decide +kernel) (by decide +kernel)) (xb (by decide +kernel) (by decide +kernel)), by decide +kernel, by decide +kernel, by decide +kernel⟩
theorem co_L_115 : cwo RL 115 yL_reset cL_reset 4 [(0, 9, 12, 13), (0, 9, 15, 15)] 3 := ⟨wB_SW (xb (by decide +kernel) (by decide +kernel)) (xb (by decide +kernel) (by decide +kernel)) (xb (by decide +kernel) (by decide +kernel)) (xb (by decide +kernel) (by decide +kernel)), by decide +kernel, by decide +kernel, by decide +kernel⟩
theorem co_L_118 : cwo RL 118 yL_over cL_over 4 [(0, 9, 12, 13)] 3 := ⟨wB_SW (xb (by decide +kernel) (by decide +kernel)) (xb (by decide +kernel) (by decide +kernel)) (xb (by decide +kernel) (by decide +kernel)) (xb (by decide +kernel) (by decide +kernel)), by decide +kernel, by decide +kernel, by decide +kernel⟩
theorem co_L_121 : cwo RL 121 yL_pass cL_pass 4 [(0, 9, 12, 13), (0, 9, 15, 15)] 3 := ⟨wB_SW (xb (by decide +kernel) (by decide +kernel)) (xb (by decide +kernel) (by decide +kernel)) (xb (by decide +kernel) (by decide +kernel)) (xb (by decide +kernel) (by decide +kernel)), by decide +kernel, by decide +kernel, by decide +kernel⟩
theorem co_L_124 : cwo RL 124 yL_set cL_set 5 [(0, 10, 13, 21), (0, 10, 17, 13)] 4 := ⟨wB_SW (xb (by decide +kernel) (by decide +kernel)) (xb (by decide +kernel) (by decide +kernel)) (xb (by decide +kernel) (by decide +kernel)) (xb (by decide +kernel) (by decide +kernel)), by decide +kernel, by decide +kernel, by decide +kernel⟩
theorem co_L_127 : cwo RL 127 yL_append cL_append 4 [(0, 9, 12, 13), (0, 9, 15, 15)] 3 := ⟨wB_SW (xb (by decide +kernel) (by decide +kernel)) (xb (by decide +kernel) (by decide +kernel)) (xb (by decide +kernel) (by decide +kernel)) (xb (by decide +kernel) (by decide +kernel)), by decide +kernel, by decide +kernel, by decide +kernel⟩
theorem co_L_138 : cwo RL 138 yL_open cL_open 3 [(0, 8, 11, 13)] 2 := ⟨wB_SW (xb (by decide +kernel) (by decide +kernel)) (xb (by decide +kernel) (by decide +kernel)) (xb (by decide +kernel) (by decide +kernel)) (xb (by decide +kernel) (by decide +kernel)), by decide +kernel, by decide +kernel, by decide +kernel⟩
theorem co_L_142 : cwo RL 142 yL_keep cL_keep 4 [(0, 9, 12, 13)] 3 := ⟨wB_SW (xb (by decide +kernel) (by decide +kernel)) (xb (by decide +kernel) (by decide +kernel)) (xb (by decide +kernel) (by decide +kernel)) (xb (by decide +kernel) (by decide +kernel)), by decide +kernel, by decide +kernel, by decide +kernel⟩
theorem co_L_145 : cwo RL 145 yL_goBack cL_goBack 4 [(0, 9, 12, 13), (0, 9, 15, 15)] 3 := ⟨wB_SW (xb (by decide +kernel) (by decide +kernel)) (xb (by decide +kernel) (by decide +kernel)) (xb (by decide +kernel) (by decide +kernel)) (xb (by decide +kernel) (by decide +kernel)), by decide +kernel, by decide +kernel, by decide +kernel⟩
theorem co_L_148 : cwo RL 148 yL_undo cL_undo 3 [(0, 8, 11, 15)] 2 := ⟨wB_SW (xb (by decide +kernel) (by decide +kernel)) (xb (by decide +kernel) (by decide +kernel)) (xb (by decide +kernel) (by decide +kernel)) (xb (by decide +kernel) (by decide +kernel)), by decide +kernel, by decide +kernel, by decide +kernel⟩
theorem co_L_151 : cwo RL 151 yL_stallOf cL_stallOf 5 [(0, 10, 13, 21), (0, 10, 17, 13)] 4 := ⟨wB_SW (xb (by decide +kernel) (by decide +kernel)) (xb (by decide +kernel) (by decide +kernel)) (xb (by decide +kernel) (by decide +kernel)) (xb (by decide +kernel) (by decide +kernel)), by decide +kernel, by decide +kernel, by decide +kernel⟩
theorem co_L_154 : cwo RL 154 yL_breaker cL_breaker 5 [(0, 10, 13, 13)] 4 := ⟨wB_SW (xb (by decide +kernel) (by decide +kernel)) (xb (by decide +kernel) (by decide +kernel)) (xb (by decide +kernel) (by decide +kernel)) (xb (by decide +kernel) (by decide +kernel)), by decide +kernel, by decide +kernel, by decide +kernel⟩
theorem co_L_157 : cwo RL 157 yL_socket cL_socket 5 [(0, 10, 13, 13)] 4 := ⟨wB_SW (xb (by decide +kernel) (by decide +kernel)) (xb (by decide +kernel) (by decide +kernel)) (xb (by decide +kernel) (by decide +kernel)) (xb (by decide +kernel) (by decide +kernel)), by decide +kernel, by decide +kernel, by decide +kernel⟩
theorem co_L_160 : cwo RL 160 yL_count cL_count 4 [(0, 9, 12, 13)] 3 := ⟨wB_SW (xb (by decide +kernel) (by decide +kernel)) (xb (by decide +kernel) (by decide +kernel)) (xb (by decide +kernel) (by decide +kernel)) (xb (by decide +kernel) (by decide +kernel)), by decide +kernel, by decide +kernel, by decide +kernel⟩
theorem co_L_163 : cwo RL 163 yL_setting cL_setting 4 [(0, 9, 12, 21)] 3 := ⟨wB_SW (xb (by decide +kernel) (by decide +kernel)) (xb (by decide +kernel) (by decide +kernel)) (xb (by decide +kernel) (by decide +kernel)) (xb (by decide +kernel) (by decide +kernel)), by decide +kernel, by decide +kernel, by decide +kernel⟩
theorem co_L_166 : cwo RL 166 yL_ifPlugged cL_ifPlugged 7 [(0, 14, 17, 21), (0, 14, 21, 13)] 6 := ⟨wB_SW (xb (by decide +kernel) (by decide +kernel)) (xb (by decide +kernel) (by decide +kernel)) (xb (by decide +kernel) (by decide +kernel)) (xb (by decide +kernel) (by decide +kernel)), by decide +kernel, by decide +kernel, by decide +kernel⟩
theorem co_L_169 : cwo RL 169 yL_tripsIn cL_tripsIn 4 [(0, 9, 12, 13)] 3 := ⟨wB_SW (xb (by decide +kernel) (by decide +kernel)) (xb (by decide +kernel) (by decide +kernel)) (xb (by decide +kernel) (by decide +kernel)) (xb (by decide +kernel) (by decide +kernel)), by decide +kernel, by decide +kernel, by decide +kernel⟩
theorem co_L_172 : cwo RL 172 yL_bestSocket cL_bestSocket 4 [(0, 9, 12, 21)] 3 := ⟨wB_SW (xb (by decide +kernel) (by decide +kernel)) (xb (by decide +kernel) (by decide +kernel)) (xb (by decide +kernel) (by decide +kernel)) (xb (by decide +kernel) (by decide +kernel)), by decide +kernel, by decide +kernel, by decide +kernel⟩
theorem co_L_175 : cwo RL 175 yL_leastBound cL_leastBound 4 [(0, 9, 12, 13)] 3 := ⟨wB_SW (xb (by decide +kernel) (by decide +kernel)) (xb (by decide +kernel) (by decide +kernel)) (xb (by decide +kernel) (by decide +kernel)) (xb (by decide +kernel) (by decide +kernel)), by decide +kernel, by decide +kernel, by decide +kernel⟩
/-- the locals at the loop's head -/
abbrev lb (b : Nat) (ad ad6 : Nat → Nat) (i : Nat) : List (Nat × Value) := [(4, .int (nI i)), (0, .ref b), (1, .ref (ad 0)), (2, .ref (ad6 0)), (3, .ref (ad 198))]
/-- what the rest of the loop needs -/
def LK (p : Program) (l : Launch) (e : Env) (R : Room) (s : State) (m : MethodId) (args : Array Value) (below : List Frame) (meth : Method) (c : Code) (Q : State → Prop) (D : va_G) (ct : Nat → ClassId) (cL : ClassId) (ad ad6 : Nat → Nat) (b i k9 n9 : Nat) : Prop := ∀ (H : Heap) (locs : List Loc) (ce ce6 : Nat → va_E) (v : Int64) (ls : Array Slot), CS ct ad ad6 ce ce6 → LW D cL ad ad6 ce v ce6 H → va_S (lA s) s.heap H locs → lv_has ls 9 (lb b ad ad6 i) → W p l e R s m args below meth c H locs k9 n9 Q (F0 m 1649 ls [])
section CASES
variable {p : Program} {l : Launch} {e : Env} {s : State} {m : MethodId} {args : Array Value} {below : List Frame} {meth : Method} {c : Code} {H : Heap} {locs : List Loc} {cells slots : Nat} {Q : State → Prop}
variable {ls : Array Slot} {D : va_G} {ct : Nat → ClassId} {cL : ClassId} {ad ad6 : Nat → Nat} {ce ce6 : Nat → va_E} {v : Int64} {b L i : Nat} {xs : Nat → Int32}
set_option maxRecDepth 100000 in
theorem lc_stall (hlt : l.stackTraces = false) (hx : p.tables.exec = Jvm.exec) (hb : c.code = cL_law) (hml : c.maxLocals = 9) (hown : s.vm.findClass RL = some m.cls) (htg : ∀ w ∈ wB, w.before args s = true) (hF : LF D ct cL ad ad6 s) (hX : va_X b L xs s s.heap) (hbl : b < s.heap.size) (hL : L ≤ 2560) (hi : i + 5 ≤ L) (hC : CS ct ad ad6 ce ce6) (hP : LW D cL ad ad6 ce v ce6 H) (hS : va_S (lA s) s.heap H locs) (hl : lv_has ls 9 (lb b ad ad6 i)) (hf : cells + 1 ≤ room_1.cells ∧ slots + 6 ≤ room_1.slots) (kk : LK p l e room_1 s m args below meth c Q D ct cL ad ad6 b i (cells + 1) (slots + 6)) : W p l e room_1 s m args below meth c H locs cells slots Q (F0 m 160 ls []) := by
  refine lv_aload_n hx hb dL_law_160 rfl (lv_at hl 2 rfl) ?_
  refine lv_aload_n hx hb dL_law_161 rfl (lv_at hl 1 rfl) ?_
  refine lv_iload hx hb dL_law_162 (lv_at hl 0 rfl) ?_
  refine lv_iconst (v := nI 1) hx hb dL_law_164 (by decide) ?_
  refine lv_iaddN hx hb dL_law_165 ?_
  refine ls_ld hx hb hX hbl hS (show i + 1 < L by omega) hL dL_law_166 ?_
  refine lv_aload_n hx hb dL_law_167 rfl (lv_at hl 1 rfl) ?_
  refine lv_iload hx hb dL_law_168 (lv_at hl 0 rfl) ?_
  refine lv_iconst (v := nI 2) hx hb dL_law_170 (by decide) ?_
  refine lv_iaddN hx hb dL_law_171 ?_
  refine ls_ld hx hb hX hbl hS (show i + 2 < L by omega) hL dL_law_172 ?_
  refine lv_aload_n hx hb dL_law_173 rfl (lv_at hl 1 rfl) ?_
  refine lv_iload hx hb dL_law_174 (lv_at hl 0 rfl) ?_
  refine lv_iconst (v := nI 3) hx hb dL_law_176 (by decide) ?_
  refine lv_iaddN hx hb dL_law_177 ?_
  refine ls_ld hx hb hX hbl hS (show i + 3 < L by omega) hL dL_law_178 ?_
  refine lv_aload_n hx hb dL_law_179 rfl (lv_at hl 1 rfl) ?_
  refine lv_iload hx hb dL_law_180 (lv_at hl 0 rfl) ?_
  refine lv_iconst (v := nI 4) hx hb dL_law_182 (by decide) ?_
  refine lv_iaddN hx hb dL_law_183 ?_
  refine ls_ld hx hb hX hbl hS (show i + 4 < L by omega) hL dL_law_184 ?_
  refine lv_aload_n hx hb dL_law_185 rfl (lv_at hl 4 rfl) ?_
  obtain ⟨k, ce1, v1, r, ce61, hc1, hc6, hcT, hkv, hC1⟩ := st_stall l hlt D ct cL ad ad6 (xs (i + 1)) (xs (i + 2)) (xs (i + 3)) (xs (i + 4)) ce ce6 v hC
  refine lo_S (av := [.ref (ad 0), .int (xs (i + 1)), .int (xs (i + 2)), .int (xs (i + 3)), .int (xs (i + 4)), .ref (ad 198)]) (rest := []) hx hb hml hown htg hF hP hS hl.1 hc1 co_L_92 rfl rfl ⟨Nat.le_of_ble_eq_true rfl, Nat.le_of_ble_eq_true rfl⟩ (Nat.le_of_ble_eq_true rfl) dL_law_186 ⟨by omega, by omega⟩ (fun H locs hP hS => ?_)
  refine lv_istore (lv' := [(5, .int k), (4, .int (nI i)), (0, .ref b), (1, .ref (ad 0)), (2, .ref (ad6 0)), (3, .ref (ad 198))]) hx hb dL_law_189 hl (by decide) rfl (fun ls hl => ?_)
  refine lv_aload_n hx hb dL_law_191 rfl (lv_at hl 4 rfl) ?_
  refine lv_aload_n hx hb dL_law_192 rfl (lv_at hl 2 rfl) ?_
  refine lv_iload hx hb dL_law_193 (lv_at hl 1 rfl) ?_
  refine lv_iconst (v := nI 1) hx hb dL_law_195 (by decide) ?_
  refine lv_iaddN hx hb dL_law_196 ?_
  refine ls_ld hx hb hX hbl hS (show i + 1 < L by omega) hL dL_law_197 ?_
  refine lv_aload_n hx hb dL_law_198 rfl (lv_at hl 2 rfl) ?_
  refine lv_iload hx hb dL_law_199 (lv_at hl 1 rfl) ?_
  refine lv_iconst (v := nI 2) hx hb dL_law_201 (by decide) ?_
  refine lv_iaddN hx hb dL_law_202 ?_
  refine ls_ld hx hb hX hbl hS (show i + 2 < L by omega) hL dL_law_203 ?_
  refine lv_aload_n hx hb dL_law_204 rfl (lv_at hl 2 rfl) ?_
  refine lv_iload hx hb dL_law_205 (lv_at hl 1 rfl) ?_
  refine lv_iconst (v := nI 3) hx hb dL_law_207 (by decide) ?_
  refine lv_iaddN hx hb dL_law_208 ?_
  refine ls_ld hx hb hX hbl hS (show i + 3 < L by omega) hL dL_law_209 ?_
  refine lv_aload_n hx hb dL_law_210 rfl (lv_at hl 2 rfl) ?_
  refine lv_iload hx hb dL_law_211 (lv_at hl 1 rfl) ?_
  refine lv_iconst (v := nI 4) hx hb dL_law_213 (by decide) ?_
  refine lv_iaddN hx hb dL_law_214 ?_
  refine ls_ld hx hb hX hbl hS (show i + 4 < L by omega) hL dL_law_215 ?_
  refine lo_M (As := [.int (xs (i + 1)), .int (xs (i + 2)), .int (xs (i + 3)), .int (xs (i + 4))]) (rest := []) hx hb hml hown htg hF hP hS hl.1 hc6 cw_L_97 hC.h6 rfl rfl ⟨Nat.le_of_ble_eq_true rfl, Nat.le_of_ble_eq_true rfl⟩ (Nat.le_of_ble_eq_true rfl) dL_law_216 ⟨by omega, by omega⟩ (fun H locs hP hS => ?_)
  refine lv_istore (lv' := [(6, .int r), (5, .int k), (4, .int (nI i)), (0, .ref b), (1, .ref (ad 0)), (2, .ref (ad6 0)), (3, .ref (ad 198))]) hx hb dL_law_219 hl (by decide) rfl (fun ls hl => ?_)
  refine lv_aload_n hx hb dL_law_221 rfl (lv_at hl 5 rfl) ?_
  refine lo_M (As := []) (rest := []) hx hb hml hown htg hF hP hS hl.1 hcT cw_L_98 hC1.h6 rfl rfl ⟨Nat.le_of_ble_eq_true rfl, Nat.le_of_ble_eq_true rfl⟩ (Nat.le_of_ble_eq_true rfl) dL_law_222 ⟨by omega, by omega⟩ (fun H locs hP hS => ?_)
  refine lv_iload hx hb dL_law_225 (lv_at hl 1 rfl) ?_
  refine lv_icmp_eq (tgt := 232) hx hb dL_law_227 rfl (fun _ => ?_) (fun h => absurd rfl h)
  refine lv_iload hx hb dL_law_232 (lv_at hl 1 rfl) ?_
  refine lv_if_ne (tgt := 249) hx hb dL_law_234 rfl (fun _ => ?_) (fun hk0 => ?_)
  · refine lv_goto (tgt := 1649) hx hb dL_law_249 rfl ?_
    exact kk H locs ce1 ce61 _ ls hC1 hP hS (lv_sub hl [2, 3, 4, 5, 6] rfl)
  · refine lv_aload_n hx hb dL_law_237 rfl (lv_at hl 6 rfl) ?_
    refine lv_iconst (v := 0) hx hb dL_law_238 rfl ?_
    refine lo_out hx hb hF hP dL_law_239 ?_
    refine lv_iload hx hb dL_law_240 (lv_at hl 0 rfl) ?_
    refine lv_i2l (v := r.toInt64) hx hb dL_law_242 rfl ?_
    refine lw_lcmp_eq hx hb (hkv hk0) dL_law_243 ?_
    refine lv_if_eq (tgt := 249) hx hb dL_law_244 rfl (fun _ => ?_) (fun h => absurd rfl h)
    refine lv_goto (tgt := 1649) hx hb dL_law_249 rfl ?_
    exact kk H locs ce1 ce61 _ ls hC1 hP hS (lv_sub hl [2, 3, 4, 5, 6] rfl)
set_option maxRecDepth 100000 in
theorem lc_plug (hlt : l.stackTraces = false) (hx : p.tables.exec = Jvm.exec) (hb : c.code = cL_law) (hml : c.maxLocals = 9) (hown : s.vm.findClass RL = some m.cls) (htg : ∀ w ∈ wB, w.before args s = true) (hF : LF D ct cL ad ad6 s) (hX : va_X b L xs s s.heap) (hbl : b < s.heap.size) (hL : L ≤ 2560) (hi : i + 5 ≤ L) (hC : CS ct ad ad6 ce ce6) (hP : LW D cL ad ad6 ce v ce6 H) (hS : va_S (lA s) s.heap H locs) (hl : lv_has ls 9 (lb b ad ad6 i)) (hf : cells + 1 ≤ room_1.cells ∧ slots + 6 ≤ room_1.slots) (kk : LK p l e room_1 s m args below meth c Q D ct cL ad ad6 b i (cells + 1) (slots + 6)) : W p l e room_1 s m args below meth c H locs cells slots Q (F0 m 252 ls []) := by
  refine lv_aload_n hx hb dL_law_252 rfl (lv_at hl 2 rfl) ?_
  refine lv_aload_n hx hb dL_law_253 rfl (lv_at hl 1 rfl) ?_
  refine lv_iload hx hb dL_law_254 (lv_at hl 0 rfl) ?_
  refine lv_iconst (v := nI 1) hx hb dL_law_256 (by decide) ?_
  refine lv_iaddN hx hb dL_law_257 ?_
  refine ls_ld hx hb hX hbl hS (show i + 1 < L by omega) hL dL_law_258 ?_
  refine lv_aload_n hx hb dL_law_259 rfl (lv_at hl 1 rfl) ?_
  refine lv_iload hx hb dL_law_260 (lv_at hl 0 rfl) ?_
  refine lv_iconst (v := nI 2) hx hb dL_law_262 (by decide) ?_
  refine lv_iaddN hx hb dL_law_263 ?_
  refine ls_ld hx hb hX hbl hS (show i + 2 < L by omega) hL dL_law_264 ?_
  refine lv_aload_n hx hb dL_law_265 rfl (lv_at hl 4 rfl) ?_
  obtain ⟨k, ce1, v1, r, ce61, hc1, hc6, hcT, hkv, hC1⟩ := st_plug l hlt D ct cL ad ad6 (xs (i + 1)) (xs (i + 2)) ce ce6 v hC
  refine lo_S (av := [.ref (ad 0), .int (xs (i + 1)), .int (xs (i + 2)), .ref (ad 198)]) (rest := []) hx hb hml hown htg hF hP hS hl.1 hc1 co_L_101 rfl rfl ⟨Nat.le_of_ble_eq_true rfl, Nat.le_of_ble_eq_true rfl⟩ (Nat.le_of_ble_eq_true rfl) dL_law_266 ⟨by omega, by omega⟩ (fun H locs hP hS => ?_)
  refine lv_istore (lv' := [(5, .int k), (4, .int (nI i)), (0, .ref b), (1, .ref (ad 0)), (2, .ref (ad6 0)), (3, .ref (ad 198))]) hx hb dL_law_269 hl (by decide) rfl (fun ls hl => ?_)
  refine lv_aload_n hx hb dL_law_271 rfl (lv_at hl 4 rfl) ?_
  refine lv_aload_n hx hb dL_law_272 rfl (lv_at hl 2 rfl) ?_
  refine lv_iload hx hb dL_law_273 (lv_at hl 1 rfl) ?_
  refine lv_iconst (v := nI 1) hx hb dL_law_275 (by decide) ?_
  refine lv_iaddN hx hb dL_law_276 ?_
  refine ls_ld hx hb hX hbl hS (show i + 1 < L by omega) hL dL_law_277 ?_
  refine lv_aload_n hx hb dL_law_278 rfl (lv_at hl 2 rfl) ?_
  refine lv_iload hx hb dL_law_279 (lv_at hl 1 rfl) ?_
  refine lv_iconst (v := nI 2) hx hb dL_law_281 (by decide) ?_
  refine lv_iaddN hx hb dL_law_282 ?_
  refine ls_ld hx hb hX hbl hS (show i + 2 < L by omega) hL dL_law_283 ?_
  refine lo_M (As := [.int (xs (i + 1)), .int (xs (i + 2))]) (rest := []) hx hb hml hown htg hF hP hS hl.1 hc6 cw_L_104 hC.h6 rfl rfl ⟨Nat.le_of_ble_eq_true rfl, Nat.le_of_ble_eq_true rfl⟩ (Nat.le_of_ble_eq_true rfl) dL_law_284 ⟨by omega, by omega⟩ (fun H locs hP hS => ?_)
  refine lv_istore (lv' := [(6, .int r), (5, .int k), (4, .int (nI i)), (0, .ref b), (1, .ref (ad 0)), (2, .ref (ad6 0)), (3, .ref (ad 198))]) hx hb dL_law_287 hl (by decide) rfl (fun ls hl => ?_)
  refine lv_aload_n hx hb dL_law_289 rfl (lv_at hl 5 rfl) ?_
  refine lo_M (As := []) (rest := []) hx hb hml hown htg hF hP hS hl.1 hcT cw_L_98 hC1.h6 rfl rfl ⟨Nat.le_of_ble_eq_true rfl, Nat.le_of_ble_eq_true rfl⟩ (Nat.le_of_ble_eq_true rfl) dL_law_290 ⟨by omega, by omega⟩ (fun H locs hP hS => ?_)
  refine lv_iload hx hb dL_law_293 (lv_at hl 1 rfl) ?_
  refine lv_icmp_eq (tgt := 300) hx hb dL_law_295 rfl (fun _ => ?_) (fun h => absurd rfl h)
  refine lv_iload hx hb dL_law_300 (lv_at hl 1 rfl) ?_
  refine lv_if_ne (tgt := 317) hx hb dL_law_302 rfl (fun _ => ?_) (fun hk0 => ?_)
  · refine lv_goto (tgt := 1649) hx hb dL_law_317 rfl ?_
    exact kk H locs ce1 ce61 _ ls hC1 hP hS (lv_sub hl [2, 3, 4, 5, 6] rfl)
  · refine lv_aload_n hx hb dL_law_305 rfl (lv_at hl 6 rfl) ?_
    refine lv_iconst (v := 0) hx hb dL_law_306 rfl ?_
    refine lo_out hx hb hF hP dL_law_307 ?_
    refine lv_iload hx hb dL_law_308 (lv_at hl 0 rfl) ?_
    refine lv_i2l (v := r.toInt64) hx hb dL_law_310 rfl ?_
    refine lw_lcmp_eq hx hb (hkv hk0) dL_law_311 ?_
    refine lv_if_eq (tgt := 317) hx hb dL_law_312 rfl (fun _ => ?_) (fun h => absurd rfl h)
    refine lv_goto (tgt := 1649) hx hb dL_law_317 rfl ?_
    exact kk H locs ce1 ce61 _ ls hC1 hP hS (lv_sub hl [2, 3, 4, 5, 6] rfl)
set_option maxRecDepth 100000 in
theorem lc_pull (hlt : l.stackTraces = false) (hx : p.tables.exec = Jvm.exec) (hb : c.code = cL_law) (hml : c.maxLocals = 9) (hown : s.vm.findClass RL = some m.cls) (htg : ∀ w ∈ wB, w.before args s = true) (hF : LF D ct cL ad ad6 s) (hX : va_X b L xs s s.heap) (hbl : b < s.heap.size) (hL : L ≤ 2560) (hi : i + 5 ≤ L) (hC : CS ct ad ad6 ce ce6) (hP : LW D cL ad ad6 ce v ce6 H) (hS : va_S (lA s) s.heap H locs) (hl : lv_has ls 9 (lb b ad ad6 i)) (hf : cells + 1 ≤ room_1.cells ∧ slots + 6 ≤ room_1.slots) (kk : LK p l e room_1 s m args below meth c Q D ct cL ad ad6 b i (cells + 1) (slots + 6)) : W p l e room_1 s m args below meth c H locs cells slots Q (F0 m 320 ls []) := by
  refine lv_aload_n hx hb dL_law_320 rfl (lv_at hl 2 rfl) ?_
  refine lv_aload_n hx hb dL_law_321 rfl (lv_at hl 1 rfl) ?_
  refine lv_iload hx hb dL_law_322 (lv_at hl 0 rfl) ?_
  refine lv_iconst (v := nI 1) hx hb dL_law_324 (by decide) ?_
  refine lv_iaddN hx hb dL_law_325 ?_
  refine ls_ld hx hb hX hbl hS (show i + 1 < L by omega) hL dL_law_326 ?_
  refine lv_aload_n hx hb dL_law_327 rfl (lv_at hl 4 rfl) ?_
  obtain ⟨k, ce1, v1, r, ce61, hc1, hc6, hcT, hkv, hC1⟩ := st_pull l hlt D ct cL ad ad6 (xs (i + 1)) ce ce6 v hC
  refine lo_S (av := [.ref (ad 0), .int (xs (i + 1)), .ref (ad 198)]) (rest := []) hx hb hml hown htg hF hP hS hl.1 hc1 co_L_105 rfl rfl ⟨Nat.le_of_ble_eq_true rfl, Nat.le_of_ble_eq_true rfl⟩ (Nat.le_of_ble_eq_true rfl) dL_law_328 ⟨by omega, by omega⟩ (fun H locs hP hS => ?_)
  refine lv_istore (lv' := [(5, .int k), (4, .int (nI i)), (0, .ref b), (1, .ref (ad 0)), (2, .ref (ad6 0)), (3, .ref (ad 198))]) hx hb dL_law_331 hl (by decide) rfl (fun ls hl => ?_)
  refine lv_aload_n hx hb dL_law_333 rfl (lv_at hl 4 rfl) ?_
  refine lv_aload_n hx hb dL_law_334 rfl (lv_at hl 2 rfl) ?_
  refine lv_iload hx hb dL_law_335 (lv_at hl 1 rfl) ?_
  refine lv_iconst (v := nI 1) hx hb dL_law_337 (by decide) ?_
  refine lv_iaddN hx hb dL_law_338 ?_
  refine ls_ld hx hb hX hbl hS (show i + 1 < L by omega) hL dL_law_339 ?_
  refine lo_M (As := [.int (xs (i + 1))]) (rest := []) hx hb hml hown htg hF hP hS hl.1 hc6 cw_L_108 hC.h6 rfl rfl ⟨Nat.le_of_ble_eq_true rfl, Nat.le_of_ble_eq_true rfl⟩ (Nat.le_of_ble_eq_true rfl) dL_law_340 ⟨by omega, by omega⟩ (fun H locs hP hS => ?_)
  refine lv_istore (lv' := [(6, .int r), (5, .int k), (4, .int (nI i)), (0, .ref b), (1, .ref (ad 0)), (2, .ref (ad6 0)), (3, .ref (ad 198))]) hx hb dL_law_343 hl (by decide) rfl (fun ls hl => ?_)
  refine lv_aload_n hx hb dL_law_345 rfl (lv_at hl 5 rfl) ?_
  refine lo_M (As := []) (rest := []) hx hb hml hown htg hF hP hS hl.1 hcT cw_L_98 hC1.h6 rfl rfl ⟨Nat.le_of_ble_eq_true rfl, Nat.le_of_ble_eq_true rfl⟩ (Nat.le_of_ble_eq_true rfl) dL_law_346 ⟨by omega, by omega⟩ (fun H locs hP hS => ?_)
  refine lv_iload hx hb dL_law_349 (lv_at hl 1 rfl) ?_
  refine lv_icmp_eq (tgt := 356) hx hb dL_law_351 rfl (fun _ => ?_) (fun h => absurd rfl h)
  refine lv_iload hx hb dL_law_356 (lv_at hl 1 rfl) ?_
  refine lv_if_ne (tgt := 373) hx hb dL_law_358 rfl (fun _ => ?_) (fun hk0 => ?_)
  · refine lv_goto (tgt := 1649) hx hb dL_law_373 rfl ?_
    exact kk H locs ce1 ce61 _ ls hC1 hP hS (lv_sub hl [2, 3, 4, 5, 6] rfl)
  · refine lv_aload_n hx hb dL_law_361 rfl (lv_at hl 6 rfl) ?_
    refine lv_iconst (v := 0) hx hb dL_law_362 rfl ?_
    refine lo_out hx hb hF hP dL_law_363 ?_
    refine lv_iload hx hb dL_law_364 (lv_at hl 0 rfl) ?_
    refine lv_i2l (v := r.toInt64) hx hb dL_law_366 rfl ?_
    refine lw_lcmp_eq hx hb (hkv hk0) dL_law_367 ?_
    refine lv_if_eq (tgt := 373) hx hb dL_law_368 rfl (fun _ => ?_) (fun h => absurd rfl h)
    refine lv_goto (tgt := 1649) hx hb dL_law_373 rfl ?_
    exact kk H locs ce1 ce61 _ ls hC1 hP hS (lv_sub hl [2, 3, 4, 5, 6] rfl)
set_option maxRecDepth 100000 in
theorem lc_shed (hlt : l.stackTraces = false) (hx : p.tables.exec = Jvm.exec) (hb : c.code = cL_law) (hml : c.maxLocals = 9) (hown : s.vm.findClass RL = some m.cls) (htg : ∀ w ∈ wB, w.before args s = true) (hF : LF D ct cL ad ad6 s) (hX : va_X b L xs s s.heap) (hbl : b < s.heap.size) (hL : L ≤ 2560) (hi : i + 5 ≤ L) (hC : CS ct ad ad6 ce ce6) (hP : LW D cL ad ad6 ce v ce6 H) (hS : va_S (lA s) s.heap H locs) (hl : lv_has ls 9 (lb b ad ad6 i)) (hf : cells + 1 ≤ room_1.cells ∧ slots + 6 ≤ room_1.slots) (kk : LK p l e room_1 s m args below meth c Q D ct cL ad ad6 b i (cells + 1) (slots + 6)) : W p l e room_1 s m args below meth c H locs cells slots Q (F0 m 376 ls []) := by
  refine lv_aload_n hx hb dL_law_376 rfl (lv_at hl 2 rfl) ?_
  refine lv_aload_n hx hb dL_law_377 rfl (lv_at hl 1 rfl) ?_
  refine lv_iload hx hb dL_law_378 (lv_at hl 0 rfl) ?_
  refine lv_iconst (v := nI 1) hx hb dL_law_380 (by decide) ?_
  refine lv_iaddN hx hb dL_law_381 ?_
  refine ls_ld hx hb hX hbl hS (show i + 1 < L by omega) hL dL_law_382 ?_
  refine lv_aload_n hx hb dL_law_383 rfl (lv_at hl 4 rfl) ?_
  obtain ⟨k, ce1, v1, r, ce61, hc1, hc6, hcT, hkv, hC1⟩ := st_shed l hlt D ct cL ad ad6 (xs (i + 1)) ce ce6 v hC
  refine lo_S (av := [.ref (ad 0), .int (xs (i + 1)), .ref (ad 198)]) (rest := []) hx hb hml hown htg hF hP hS hl.1 hc1 co_L_109 rfl rfl ⟨Nat.le_of_ble_eq_true rfl, Nat.le_of_ble_eq_true rfl⟩ (Nat.le_of_ble_eq_true rfl) dL_law_384 ⟨by omega, by omega⟩ (fun H locs hP hS => ?_)
  refine lv_istore (lv' := [(5, .int k), (4, .int (nI i)), (0, .ref b), (1, .ref (ad 0)), (2, .ref (ad6 0)), (3, .ref (ad 198))]) hx hb dL_law_387 hl (by decide) rfl (fun ls hl => ?_)
  refine lv_aload_n hx hb dL_law_389 rfl (lv_at hl 4 rfl) ?_
  refine lv_aload_n hx hb dL_law_390 rfl (lv_at hl 2 rfl) ?_
  refine lv_iload hx hb dL_law_391 (lv_at hl 1 rfl) ?_
  refine lv_iconst (v := nI 1) hx hb dL_law_393 (by decide) ?_
  refine lv_iaddN hx hb dL_law_394 ?_
  refine ls_ld hx hb hX hbl hS (show i + 1 < L by omega) hL dL_law_395 ?_
  refine lo_M (As := [.int (xs (i + 1))]) (rest := []) hx hb hml hown htg hF hP hS hl.1 hc6 cw_L_111 hC.h6 rfl rfl ⟨Nat.le_of_ble_eq_true rfl, Nat.le_of_ble_eq_true rfl⟩ (Nat.le_of_ble_eq_true rfl) dL_law_396 ⟨by omega, by omega⟩ (fun H locs hP hS => ?_)
  refine lv_istore (lv' := [(6, .int r), (5, .int k), (4, .int (nI i)), (0, .ref b), (1, .ref (ad 0)), (2, .ref (ad6 0)), (3, .ref (ad 198))]) hx hb dL_law_399 hl (by decide) rfl (fun ls hl => ?_)
  refine lv_aload_n hx hb dL_law_401 rfl (lv_at hl 5 rfl) ?_
  refine lo_M (As := []) (rest := []) hx hb hml hown htg hF hP hS hl.1 hcT cw_L_98 hC1.h6 rfl rfl ⟨Nat.le_of_ble_eq_true rfl, Nat.le_of_ble_eq_true rfl⟩ (Nat.le_of_ble_eq_true rfl) dL_law_402 ⟨by omega, by omega⟩ (fun H locs hP hS => ?_)
  refine lv_iload hx hb dL_law_405 (lv_at hl 1 rfl) ?_
  refine lv_icmp_eq (tgt := 412) hx hb dL_law_407 rfl (fun _ => ?_) (fun h => absurd rfl h)
  refine lv_iload hx hb dL_law_412 (lv_at hl 1 rfl) ?_
  refine lv_if_ne (tgt := 429) hx hb dL_law_414 rfl (fun _ => ?_) (fun hk0 => ?_)
  · refine lv_goto (tgt := 1649) hx hb dL_law_429 rfl ?_
    exact kk H locs ce1 ce61 _ ls hC1 hP hS (lv_sub hl [2, 3, 4, 5, 6] rfl)
  · refine lv_aload_n hx hb dL_law_417 rfl (lv_at hl 6 rfl) ?_
    refine lv_iconst (v := 0) hx hb dL_law_418 rfl ?_
    refine lo_out hx hb hF hP dL_law_419 ?_
    refine lv_iload hx hb dL_law_420 (lv_at hl 0 rfl) ?_
    refine lv_i2l (v := r.toInt64) hx hb dL_law_422 rfl ?_
    refine lw_lcmp_eq hx hb (hkv hk0) dL_law_423 ?_
    refine lv_if_eq (tgt := 429) hx hb dL_law_424 rfl (fun _ => ?_) (fun h => absurd rfl h)
    refine lv_goto (tgt := 1649) hx hb dL_law_429 rfl ?_
    exact kk H locs ce1 ce61 _ ls hC1 hP hS (lv_sub hl [2, 3, 4, 5, 6] rfl)
set_option maxRecDepth 100000 in
theorem lc_bound (hlt : l.stackTraces = false) (hx : p.tables.exec = Jvm.exec) (hb : c.code = cL_law) (hml : c.maxLocals = 9) (hown : s.vm.findClass RL = some m.cls) (htg : ∀ w ∈ wB, w.before args s = true) (hF : LF D ct cL ad ad6 s) (hX : va_X b L xs s s.heap) (hbl : b < s.heap.size) (hL : L ≤ 2560) (hi : i + 5 ≤ L) (hC : CS ct ad ad6 ce ce6) (hP : LW D cL ad ad6 ce v ce6 H) (hS : va_S (lA s) s.heap H locs) (hl : lv_has ls 9 (lb b ad ad6 i)) (hf : cells + 1 ≤ room_1.cells ∧ slots + 6 ≤ room_1.slots) (kk : LK p l e room_1 s m args below meth c Q D ct cL ad ad6 b i (cells + 1) (slots + 6)) : W p l e room_1 s m args below meth c H locs cells slots Q (F0 m 432 ls []) := by
  refine lv_aload_n hx hb dL_law_432 rfl (lv_at hl 2 rfl) ?_
  refine lv_aload_n hx hb dL_law_433 rfl (lv_at hl 1 rfl) ?_
  refine lv_iload hx hb dL_law_434 (lv_at hl 0 rfl) ?_
  refine lv_iconst (v := nI 1) hx hb dL_law_436 (by decide) ?_
  refine lv_iaddN hx hb dL_law_437 ?_
  refine ls_ld hx hb hX hbl hS (show i + 1 < L by omega) hL dL_law_438 ?_
  refine lv_aload_n hx hb dL_law_439 rfl (lv_at hl 1 rfl) ?_
  refine lv_iload hx hb dL_law_440 (lv_at hl 0 rfl) ?_
  refine lv_iconst (v := nI 2) hx hb dL_law_442 (by decide) ?_
  refine lv_iaddN hx hb dL_law_443 ?_
  refine ls_ld hx hb hX hbl hS (show i + 2 < L by omega) hL dL_law_444 ?_
  refine lv_aload_n hx hb dL_law_445 rfl (lv_at hl 4 rfl) ?_
  obtain ⟨k, ce1, v1, r, ce61, hc1, hc6, hcT, hkv, hC1⟩ := st_bound l hlt D ct cL ad ad6 (xs (i + 1)) (xs (i + 2)) ce ce6 v hC
  refine lo_S (av := [.ref (ad 0), .int (xs (i + 1)), .int (xs (i + 2)), .ref (ad 198)]) (rest := []) hx hb hml hown htg hF hP hS hl.1 hc1 co_L_112 rfl rfl ⟨Nat.le_of_ble_eq_true rfl, Nat.le_of_ble_eq_true rfl⟩ (Nat.le_of_ble_eq_true rfl) dL_law_446 ⟨by omega, by omega⟩ (fun H locs hP hS => ?_)
  refine lv_istore (lv' := [(5, .int k), (4, .int (nI i)), (0, .ref b), (1, .ref (ad 0)), (2, .ref (ad6 0)), (3, .ref (ad 198))]) hx hb dL_law_449 hl (by decide) rfl (fun ls hl => ?_)
  refine lv_aload_n hx hb dL_law_451 rfl (lv_at hl 4 rfl) ?_
  refine lv_aload_n hx hb dL_law_452 rfl (lv_at hl 2 rfl) ?_
  refine lv_iload hx hb dL_law_453 (lv_at hl 1 rfl) ?_
  refine lv_iconst (v := nI 1) hx hb dL_law_455 (by decide) ?_
  refine lv_iaddN hx hb dL_law_456 ?_
  refine ls_ld hx hb hX hbl hS (show i + 1 < L by omega) hL dL_law_457 ?_
  refine lv_aload_n hx hb dL_law_458 rfl (lv_at hl 2 rfl) ?_
  refine lv_iload hx hb dL_law_459 (lv_at hl 1 rfl) ?_
  refine lv_iconst (v := nI 2) hx hb dL_law_461 (by decide) ?_
  refine lv_iaddN hx hb dL_law_462 ?_
  refine ls_ld hx hb hX hbl hS (show i + 2 < L by omega) hL dL_law_463 ?_
  refine lo_M (As := [.int (xs (i + 1)), .int (xs (i + 2))]) (rest := []) hx hb hml hown htg hF hP hS hl.1 hc6 cw_L_114 hC.h6 rfl rfl ⟨Nat.le_of_ble_eq_true rfl, Nat.le_of_ble_eq_true rfl⟩ (Nat.le_of_ble_eq_true rfl) dL_law_464 ⟨by omega, by omega⟩ (fun H locs hP hS => ?_)
  refine lv_istore (lv' := [(6, .int r), (5, .int k), (4, .int (nI i)), (0, .ref b), (1, .ref (ad 0)), (2, .ref (ad6 0)), (3, .ref (ad 198))]) hx hb dL_law_467 hl (by decide) rfl (fun ls hl => ?_)
  refine lv_aload_n hx hb dL_law_469 rfl (lv_at hl 5 rfl) ?_
  refine lo_M (As := []) (rest := []) hx hb hml hown htg hF hP hS hl.1 hcT cw_L_98 hC1.h6 rfl rfl ⟨Nat.le_of_ble_eq_true rfl, Nat.le_of_ble_eq_true rfl⟩ (Nat.le_of_ble_eq_true rfl) dL_law_470 ⟨by omega, by omega⟩ (fun H locs hP hS => ?_)
  refine lv_iload hx hb dL_law_473 (lv_at hl 1 rfl) ?_
  refine lv_icmp_eq (tgt := 480) hx hb dL_law_475 rfl (fun _ => ?_) (fun h => absurd rfl h)
  refine lv_iload hx hb dL_law_480 (lv_at hl 1 rfl) ?_
  refine lv_if_ne (tgt := 497) hx hb dL_law_482 rfl (fun _ => ?_) (fun hk0 => ?_)
  · refine lv_goto (tgt := 1649) hx hb dL_law_497 rfl ?_
    exact kk H locs ce1 ce61 _ ls hC1 hP hS (lv_sub hl [2, 3, 4, 5, 6] rfl)
  · refine lv_aload_n hx hb dL_law_485 rfl (lv_at hl 6 rfl) ?_
    refine lv_iconst (v := 0) hx hb dL_law_486 rfl ?_
    refine lo_out hx hb hF hP dL_law_487 ?_
    refine lv_iload hx hb dL_law_488 (lv_at hl 0 rfl) ?_
    refine lv_i2l (v := r.toInt64) hx hb dL_law_490 rfl ?_
    refine lw_lcmp_eq hx hb (hkv hk0) dL_law_491 ?_
    refine lv_if_eq (tgt := 497) hx hb dL_law_492 rfl (fun _ => ?_) (fun h => absurd rfl h)
    refine lv_goto (tgt := 1649) hx hb dL_law_497 rfl ?_
    exact kk H locs ce1 ce61 _ ls hC1 hP hS (lv_sub hl [2, 3, 4, 5, 6] rfl)
set_option maxRecDepth 100000 in
theorem lc_reset (hlt : l.stackTraces = false) (hx : p.tables.exec = Jvm.exec) (hb : c.code = cL_law) (hml : c.maxLocals = 9) (hown : s.vm.findClass RL = some m.cls) (htg : ∀ w ∈ wB, w.before args s = true) (hF : LF D ct cL ad ad6 s) (hX : va_X b L xs s s.heap) (hbl : b < s.heap.size) (hL : L ≤ 2560) (hi : i + 5 ≤ L) (hC : CS ct ad ad6 ce ce6) (hP : LW D cL ad ad6 ce v ce6 H) (hS : va_S (lA s) s.heap H locs) (hl : lv_has ls 9 (lb b ad ad6 i)) (hf : cells + 1 ≤ room_1.cells ∧ slots + 6 ≤ room_1.slots) (kk : LK p l e room_1 s m args below meth c Q D ct cL ad ad6 b i (cells + 1) (slots + 6)) : W p l e room_1 s m args below meth c H locs cells slots Q (F0 m 500 ls []) := by
  refine lv_aload_n hx hb dL_law_500 rfl (lv_at hl 2 rfl) ?_
  refine lv_aload_n hx hb dL_law_501 rfl (lv_at hl 1 rfl) ?_
  refine lv_iload hx hb dL_law_502 (lv_at hl 0 rfl) ?_
  refine lv_iconst (v := nI 1) hx hb dL_law_504 (by decide) ?_
  refine lv_iaddN hx hb dL_law_505 ?_
  refine ls_ld hx hb hX hbl hS (show i + 1 < L by omega) hL dL_law_506 ?_
  refine lv_aload_n hx hb dL_law_507 rfl (lv_at hl 4 rfl) ?_
  obtain ⟨k, ce1, v1, r, ce61, hc1, hc6, hcT, hkv, hC1⟩ := st_reset l hlt D ct cL ad ad6 (xs (i + 1)) ce ce6 v hC
  refine lo_S (av := [.ref (ad 0), .int (xs (i + 1)), .ref (ad 198)]) (rest := []) hx hb hml hown htg hF hP hS hl.1 hc1 co_L_115 rfl rfl ⟨Nat.le_of_ble_eq_true rfl, Nat.le_of_ble_eq_true rfl⟩ (Nat.le_of_ble_eq_true rfl) dL_law_508 ⟨by omega, by omega⟩ (fun H locs hP hS => ?_)
  refine lv_istore (lv' := [(5, .int k), (4, .int (nI i)), (0, .ref b), (1, .ref (ad 0)), (2, .ref (ad6 0)), (3, .ref (ad 198))]) hx hb dL_law_511 hl (by decide) rfl (fun ls hl => ?_)
  refine lv_aload_n hx hb dL_law_513 rfl (lv_at hl 4 rfl) ?_
  refine lv_aload_n hx hb dL_law_514 rfl (lv_at hl 2 rfl) ?_
  refine lv_iload hx hb dL_law_515 (lv_at hl 1 rfl) ?_
  refine lv_iconst (v := nI 1) hx hb dL_law_517 (by decide) ?_
  refine lv_iaddN hx hb dL_law_518 ?_
  refine ls_ld hx hb hX hbl hS (show i + 1 < L by omega) hL dL_law_519 ?_
  refine lo_M (As := [.int (xs (i + 1))]) (rest := []) hx hb hml hown htg hF hP hS hl.1 hc6 cw_L_117 hC.h6 rfl rfl ⟨Nat.le_of_ble_eq_true rfl, Nat.le_of_ble_eq_true rfl⟩ (Nat.le_of_ble_eq_true rfl) dL_law_520 ⟨by omega, by omega⟩ (fun H locs hP hS => ?_)
  refine lv_istore (lv' := [(6, .int r), (5, .int k), (4, .int (nI i)), (0, .ref b), (1, .ref (ad 0)), (2, .ref (ad6 0)), (3, .ref (ad 198))]) hx hb dL_law_523 hl (by decide) rfl (fun ls hl => ?_)
  refine lv_aload_n hx hb dL_law_525 rfl (lv_at hl 5 rfl) ?_
  refine lo_M (As := []) (rest := []) hx hb hml hown htg hF hP hS hl.1 hcT cw_L_98 hC1.h6 rfl rfl ⟨Nat.le_of_ble_eq_true rfl, Nat.le_of_ble_eq_true rfl⟩ (Nat.le_of_ble_eq_true rfl) dL_law_526 ⟨by omega, by omega⟩ (fun H locs hP hS => ?_)
  refine lv_iload hx hb dL_law_529 (lv_at hl 1 rfl) ?_
  refine lv_icmp_eq (tgt := 536) hx hb dL_law_531 rfl (fun _ => ?_) (fun h => absurd rfl h)
  refine lv_iload hx hb dL_law_536 (lv_at hl 1 rfl) ?_
  refine lv_if_ne (tgt := 553) hx hb dL_law_538 rfl (fun _ => ?_) (fun hk0 => ?_)
  · refine lv_goto (tgt := 1649) hx hb dL_law_553 rfl ?_
    exact kk H locs ce1 ce61 _ ls hC1 hP hS (lv_sub hl [2, 3, 4, 5, 6] rfl)
  · refine lv_aload_n hx hb dL_law_541 rfl (lv_at hl 6 rfl) ?_
    refine lv_iconst (v := 0) hx hb dL_law_542 rfl ?_
    refine lo_out hx hb hF hP dL_law_543 ?_
    refine lv_iload hx hb dL_law_544 (lv_at hl 0 rfl) ?_
    refine lv_i2l (v := r.toInt64) hx hb dL_law_546 rfl ?_
    refine lw_lcmp_eq hx hb (hkv hk0) dL_law_547 ?_
    refine lv_if_eq (tgt := 553) hx hb dL_law_548 rfl (fun _ => ?_) (fun h => absurd rfl h)
    refine lv_goto (tgt := 1649) hx hb dL_law_553 rfl ?_
    exact kk H locs ce1 ce61 _ ls hC1 hP hS (lv_sub hl [2, 3, 4, 5, 6] rfl)
set_option maxRecDepth 100000 in
theorem lc_over (hlt : l.stackTraces = false) (hx : p.tables.exec = Jvm.exec) (hb : c.code = cL_law) (hml : c.maxLocals = 9) (hown : s.vm.findClass RL = some m.cls) (htg : ∀ w ∈ wB, w.before args s = true) (hF : LF D ct cL ad ad6 s) (hX : va_X b L xs s s.heap) (hbl : b < s.heap.size) (hL : L ≤ 2560) (hi : i + 5 ≤ L) (hC : CS ct ad ad6 ce ce6) (hP : LW D cL ad ad6 ce v ce6 H) (hS : va_S (lA s) s.heap H locs) (hl : lv_has ls 9 (lb b ad ad6 i)) (hf : cells + 1 ≤ room_1.cells ∧ slots + 6 ≤ room_1.slots) (kk : LK p l e room_1 s m args below meth c Q D ct cL ad ad6 b i (cells + 1) (slots + 6)) : W p l e room_1 s m args below meth c H locs cells slots Q (F0 m 556 ls []) := by
  refine lv_aload_n hx hb dL_law_556 rfl (lv_at hl 2 rfl) ?_
  refine lv_aload_n hx hb dL_law_557 rfl (lv_at hl 1 rfl) ?_
  refine lv_iload hx hb dL_law_558 (lv_at hl 0 rfl) ?_
  refine lv_iconst (v := nI 1) hx hb dL_law_560 (by decide) ?_
  refine lv_iaddN hx hb dL_law_561 ?_
  refine ls_ld hx hb hX hbl hS (show i + 1 < L by omega) hL dL_law_562 ?_
  refine lv_aload_n hx hb dL_law_563 rfl (lv_at hl 4 rfl) ?_
  obtain ⟨k, ce1, v1, r, ce61, hc1, hc6, hcT, hkv, hC1⟩ := st_over l hlt D ct cL ad ad6 (xs (i + 1)) ce ce6 v hC
  refine lo_S (av := [.ref (ad 0), .int (xs (i + 1)), .ref (ad 198)]) (rest := []) hx hb hml hown htg hF hP hS hl.1 hc1 co_L_118 rfl rfl ⟨Nat.le_of_ble_eq_true rfl, Nat.le_of_ble_eq_true rfl⟩ (Nat.le_of_ble_eq_true rfl) dL_law_564 ⟨by omega, by omega⟩ (fun H locs hP hS => ?_)
  refine lv_istore (lv' := [(5, .int k), (4, .int (nI i)), (0, .ref b), (1, .ref (ad 0)), (2, .ref (ad6 0)), (3, .ref (ad 198))]) hx hb dL_law_567 hl (by decide) rfl (fun ls hl => ?_)
  refine lv_aload_n hx hb dL_law_569 rfl (lv_at hl 4 rfl) ?_
  refine lv_aload_n hx hb dL_law_570 rfl (lv_at hl 2 rfl) ?_
  refine lv_iload hx hb dL_law_571 (lv_at hl 1 rfl) ?_
  refine lv_iconst (v := nI 1) hx hb dL_law_573 (by decide) ?_
  refine lv_iaddN hx hb dL_law_574 ?_
  refine ls_ld hx hb hX hbl hS (show i + 1 < L by omega) hL dL_law_575 ?_
  refine lo_M (As := [.int (xs (i + 1))]) (rest := []) hx hb hml hown htg hF hP hS hl.1 hc6 cw_L_120 hC.h6 rfl rfl ⟨Nat.le_of_ble_eq_true rfl, Nat.le_of_ble_eq_true rfl⟩ (Nat.le_of_ble_eq_true rfl) dL_law_576 ⟨by omega, by omega⟩ (fun H locs hP hS => ?_)
  refine lv_istore (lv' := [(6, .int r), (5, .int k), (4, .int (nI i)), (0, .ref b), (1, .ref (ad 0)), (2, .ref (ad6 0)), (3, .ref (ad 198))]) hx hb dL_law_579 hl (by decide) rfl (fun ls hl => ?_)
  refine lv_aload_n hx hb dL_law_581 rfl (lv_at hl 5 rfl) ?_
  refine lo_M (As := []) (rest := []) hx hb hml hown htg hF hP hS hl.1 hcT cw_L_98 hC1.h6 rfl rfl ⟨Nat.le_of_ble_eq_true rfl, Nat.le_of_ble_eq_true rfl⟩ (Nat.le_of_ble_eq_true rfl) dL_law_582 ⟨by omega, by omega⟩ (fun H locs hP hS => ?_)
  refine lv_iload hx hb dL_law_585 (lv_at hl 1 rfl) ?_
  refine lv_icmp_eq (tgt := 592) hx hb dL_law_587 rfl (fun _ => ?_) (fun h => absurd rfl h)
  refine lv_iload hx hb dL_law_592 (lv_at hl 1 rfl) ?_
  refine lv_if_ne (tgt := 609) hx hb dL_law_594 rfl (fun _ => ?_) (fun hk0 => ?_)
  · refine lv_goto (tgt := 1649) hx hb dL_law_609 rfl ?_
    exact kk H locs ce1 ce61 _ ls hC1 hP hS (lv_sub hl [2, 3, 4, 5, 6] rfl)
  · refine lv_aload_n hx hb dL_law_597 rfl (lv_at hl 6 rfl) ?_
    refine lv_iconst (v := 0) hx hb dL_law_598 rfl ?_
    refine lo_out hx hb hF hP dL_law_599 ?_
    refine lv_iload hx hb dL_law_600 (lv_at hl 0 rfl) ?_
    refine lv_i2l (v := r.toInt64) hx hb dL_law_602 rfl ?_
    refine lw_lcmp_eq hx hb (hkv hk0) dL_law_603 ?_
    refine lv_if_eq (tgt := 609) hx hb dL_law_604 rfl (fun _ => ?_) (fun h => absurd rfl h)
    refine lv_goto (tgt := 1649) hx hb dL_law_609 rfl ?_
    exact kk H locs ce1 ce61 _ ls hC1 hP hS (lv_sub hl [2, 3, 4, 5, 6] rfl)
set_option maxRecDepth 100000 in
theorem lc_pass (hlt : l.stackTraces = false) (hx : p.tables.exec = Jvm.exec) (hb : c.code = cL_law) (hml : c.maxLocals = 9) (hown : s.vm.findClass RL = some m.cls) (htg : ∀ w ∈ wB, w.before args s = true) (hF : LF D ct cL ad ad6 s) (hX : va_X b L xs s s.heap) (hbl : b < s.heap.size) (hL : L ≤ 2560) (hi : i + 5 ≤ L) (hC : CS ct ad ad6 ce ce6) (hP : LW D cL ad ad6 ce v ce6 H) (hS : va_S (lA s) s.heap H locs) (hl : lv_has ls 9 (lb b ad ad6 i)) (hf : cells + 1 ≤ room_1.cells ∧ slots + 6 ≤ room_1.slots) (kk : LK p l e room_1 s m args below meth c Q D ct cL ad ad6 b i (cells + 1) (slots + 6)) : W p l e room_1 s m args below meth c H locs cells slots Q (F0 m 612 ls []) := by
  refine lv_aload_n hx hb dL_law_612 rfl (lv_at hl 2 rfl) ?_
  refine lv_aload_n hx hb dL_law_613 rfl (lv_at hl 1 rfl) ?_
  refine lv_iload hx hb dL_law_614 (lv_at hl 0 rfl) ?_
  refine lv_iconst (v := nI 1) hx hb dL_law_616 (by decide) ?_
  refine lv_iaddN hx hb dL_law_617 ?_
  refine ls_ld hx hb hX hbl hS (show i + 1 < L by omega) hL dL_law_618 ?_
  refine lv_aload_n hx hb dL_law_619 rfl (lv_at hl 4 rfl) ?_
  obtain ⟨k, ce1, v1, r, ce61, hc1, hc6, hcT, hkv, hC1⟩ := st_pass l hlt D ct cL ad ad6 (xs (i + 1)) ce ce6 v hC
  refine lo_S (av := [.ref (ad 0), .int (xs (i + 1)), .ref (ad 198)]) (rest := []) hx hb hml hown htg hF hP hS hl.1 hc1 co_L_121 rfl rfl ⟨Nat.le_of_ble_eq_true rfl, Nat.le_of_ble_eq_true rfl⟩ (Nat.le_of_ble_eq_true rfl) dL_law_620 ⟨by omega, by omega⟩ (fun H locs hP hS => ?_)
  refine lv_istore (lv' := [(5, .int k), (4, .int (nI i)), (0, .ref b), (1, .ref (ad 0)), (2, .ref (ad6 0)), (3, .ref (ad 198))]) hx hb dL_law_623 hl (by decide) rfl (fun ls hl => ?_)
  refine lv_aload_n hx hb dL_law_625 rfl (lv_at hl 4 rfl) ?_
  refine lv_aload_n hx hb dL_law_626 rfl (lv_at hl 2 rfl) ?_
  refine lv_iload hx hb dL_law_627 (lv_at hl 1 rfl) ?_
  refine lv_iconst (v := nI 1) hx hb dL_law_629 (by decide) ?_
  refine lv_iaddN hx hb dL_law_630 ?_
  refine ls_ld hx hb hX hbl hS (show i + 1 < L by omega) hL dL_law_631 ?_
  refine lo_M (As := [.int (xs (i + 1))]) (rest := []) hx hb hml hown htg hF hP hS hl.1 hc6 cw_L_123 hC.h6 rfl rfl ⟨Nat.le_of_ble_eq_true rfl, Nat.le_of_ble_eq_true rfl⟩ (Nat.le_of_ble_eq_true rfl) dL_law_632 ⟨by omega, by omega⟩ (fun H locs hP hS => ?_)
  refine lv_istore (lv' := [(6, .int r), (5, .int k), (4, .int (nI i)), (0, .ref b), (1, .ref (ad 0)), (2, .ref (ad6 0)), (3, .ref (ad 198))]) hx hb dL_law_635 hl (by decide) rfl (fun ls hl => ?_)
  refine lv_aload_n hx hb dL_law_637 rfl (lv_at hl 5 rfl) ?_
  refine lo_M (As := []) (rest := []) hx hb hml hown htg hF hP hS hl.1 hcT cw_L_98 hC1.h6 rfl rfl ⟨Nat.le_of_ble_eq_true rfl, Nat.le_of_ble_eq_true rfl⟩ (Nat.le_of_ble_eq_true rfl) dL_law_638 ⟨by omega, by omega⟩ (fun H locs hP hS => ?_)
  refine lv_iload hx hb dL_law_641 (lv_at hl 1 rfl) ?_
  refine lv_icmp_eq (tgt := 648) hx hb dL_law_643 rfl (fun _ => ?_) (fun h => absurd rfl h)
  refine lv_iload hx hb dL_law_648 (lv_at hl 1 rfl) ?_
  refine lv_if_ne (tgt := 665) hx hb dL_law_650 rfl (fun _ => ?_) (fun hk0 => ?_)
  · refine lv_goto (tgt := 1649) hx hb dL_law_665 rfl ?_
    exact kk H locs ce1 ce61 _ ls hC1 hP hS (lv_sub hl [2, 3, 4, 5, 6] rfl)
  · refine lv_aload_n hx hb dL_law_653 rfl (lv_at hl 6 rfl) ?_
    refine lv_iconst (v := 0) hx hb dL_law_654 rfl ?_
    refine lo_out hx hb hF hP dL_law_655 ?_
    refine lv_iload hx hb dL_law_656 (lv_at hl 0 rfl) ?_
    refine lv_i2l (v := r.toInt64) hx hb dL_law_658 rfl ?_
    refine lw_lcmp_eq hx hb (hkv hk0) dL_law_659 ?_
    refine lv_if_eq (tgt := 665) hx hb dL_law_660 rfl (fun _ => ?_) (fun h => absurd rfl h)
    refine lv_goto (tgt := 1649) hx hb dL_law_665 rfl ?_
    exact kk H locs ce1 ce61 _ ls hC1 hP hS (lv_sub hl [2, 3, 4, 5, 6] rfl)
set_option maxRecDepth 100000 in
theorem lc_set (hlt : l.stackTraces = false) (hx : p.tables.exec = Jvm.exec) (hb : c.code = cL_law) (hml : c.maxLocals = 9) (hown : s.vm.findClass RL = some m.cls) (htg : ∀ w ∈ wB, w.before args s = true) (hF : LF D ct cL ad ad6 s) (hX : va_X b L xs s s.heap) (hbl : b < s.heap.size) (hL : L ≤ 2560) (hi : i + 5 ≤ L) (hC : CS ct ad ad6 ce ce6) (hP : LW D cL ad ad6 ce v ce6 H) (hS : va_S (lA s) s.heap H locs) (hl : lv_has ls 9 (lb b ad ad6 i)) (hf : cells + 1 ≤ room_1.cells ∧ slots + 6 ≤ room_1.slots) (kk : LK p l e room_1 s m args below meth c Q D ct cL ad ad6 b i (cells + 1) (slots + 6)) : W p l e room_1 s m args below meth c H locs cells slots Q (F0 m 668 ls []) := by
  refine lv_aload_n hx hb dL_law_668 rfl (lv_at hl 2 rfl) ?_
  refine lv_aload_n hx hb dL_law_669 rfl (lv_at hl 1 rfl) ?_
  refine lv_iload hx hb dL_law_670 (lv_at hl 0 rfl) ?_
  refine lv_iconst (v := nI 1) hx hb dL_law_672 (by decide) ?_
  refine lv_iaddN hx hb dL_law_673 ?_
  refine ls_ld hx hb hX hbl hS (show i + 1 < L by omega) hL dL_law_674 ?_
  refine lv_aload_n hx hb dL_law_675 rfl (lv_at hl 1 rfl) ?_
  refine lv_iload hx hb dL_law_676 (lv_at hl 0 rfl) ?_
  refine lv_iconst (v := nI 2) hx hb dL_law_678 (by decide) ?_
  refine lv_iaddN hx hb dL_law_679 ?_
  refine ls_ld hx hb hX hbl hS (show i + 2 < L by omega) hL dL_law_680 ?_
  refine lv_aload_n hx hb dL_law_681 rfl (lv_at hl 4 rfl) ?_
  obtain ⟨k, ce1, v1, r, ce61, hc1, hc6, hcT, hkv, hC1⟩ := st_set l hlt D ct cL ad ad6 (xs (i + 1)) (xs (i + 2)) ce ce6 v hC
  refine lo_S (av := [.ref (ad 0), .int (xs (i + 1)), .int (xs (i + 2)), .ref (ad 198)]) (rest := []) hx hb hml hown htg hF hP hS hl.1 hc1 co_L_124 rfl rfl ⟨Nat.le_of_ble_eq_true rfl, Nat.le_of_ble_eq_true rfl⟩ (Nat.le_of_ble_eq_true rfl) dL_law_682 ⟨by omega, by omega⟩ (fun H locs hP hS => ?_)
  refine lv_istore (lv' := [(5, .int k), (4, .int (nI i)), (0, .ref b), (1, .ref (ad 0)), (2, .ref (ad6 0)), (3, .ref (ad 198))]) hx hb dL_law_685 hl (by decide) rfl (fun ls hl => ?_)
  refine lv_aload_n hx hb dL_law_687 rfl (lv_at hl 4 rfl) ?_
  refine lv_aload_n hx hb dL_law_688 rfl (lv_at hl 2 rfl) ?_
  refine lv_iload hx hb dL_law_689 (lv_at hl 1 rfl) ?_
  refine lv_iconst (v := nI 1) hx hb dL_law_691 (by decide) ?_
  refine lv_iaddN hx hb dL_law_692 ?_
  refine ls_ld hx hb hX hbl hS (show i + 1 < L by omega) hL dL_law_693 ?_
  refine lv_aload_n hx hb dL_law_694 rfl (lv_at hl 2 rfl) ?_
  refine lv_iload hx hb dL_law_695 (lv_at hl 1 rfl) ?_
  refine lv_iconst (v := nI 2) hx hb dL_law_697 (by decide) ?_
  refine lv_iaddN hx hb dL_law_698 ?_
  refine ls_ld hx hb hX hbl hS (show i + 2 < L by omega) hL dL_law_699 ?_
  refine lo_M (As := [.int (xs (i + 1)), .int (xs (i + 2))]) (rest := []) hx hb hml hown htg hF hP hS hl.1 hc6 cw_L_126 hC.h6 rfl rfl ⟨Nat.le_of_ble_eq_true rfl, Nat.le_of_ble_eq_true rfl⟩ (Nat.le_of_ble_eq_true rfl) dL_law_700 ⟨by omega, by omega⟩ (fun H locs hP hS => ?_)
  refine lv_istore (lv' := [(6, .int r), (5, .int k), (4, .int (nI i)), (0, .ref b), (1, .ref (ad 0)), (2, .ref (ad6 0)), (3, .ref (ad 198))]) hx hb dL_law_703 hl (by decide) rfl (fun ls hl => ?_)
  refine lv_aload_n hx hb dL_law_705 rfl (lv_at hl 5 rfl) ?_
  refine lo_M (As := []) (rest := []) hx hb hml hown htg hF hP hS hl.1 hcT cw_L_98 hC1.h6 rfl rfl ⟨Nat.le_of_ble_eq_true rfl, Nat.le_of_ble_eq_true rfl⟩ (Nat.le_of_ble_eq_true rfl) dL_law_706 ⟨by omega, by omega⟩ (fun H locs hP hS => ?_)
  refine lv_iload hx hb dL_law_709 (lv_at hl 1 rfl) ?_
  refine lv_icmp_eq (tgt := 716) hx hb dL_law_711 rfl (fun _ => ?_) (fun h => absurd rfl h)
  refine lv_iload hx hb dL_law_716 (lv_at hl 1 rfl) ?_
  refine lv_if_ne (tgt := 733) hx hb dL_law_718 rfl (fun _ => ?_) (fun hk0 => ?_)
  · refine lv_goto (tgt := 1649) hx hb dL_law_733 rfl ?_
    exact kk H locs ce1 ce61 _ ls hC1 hP hS (lv_sub hl [2, 3, 4, 5, 6] rfl)
  · refine lv_aload_n hx hb dL_law_721 rfl (lv_at hl 6 rfl) ?_
    refine lv_iconst (v := 0) hx hb dL_law_722 rfl ?_
    refine lo_out hx hb hF hP dL_law_723 ?_
    refine lv_iload hx hb dL_law_724 (lv_at hl 0 rfl) ?_
    refine lv_i2l (v := r.toInt64) hx hb dL_law_726 rfl ?_
    refine lw_lcmp_eq hx hb (hkv hk0) dL_law_727 ?_
    refine lv_if_eq (tgt := 733) hx hb dL_law_728 rfl (fun _ => ?_) (fun h => absurd rfl h)
    refine lv_goto (tgt := 1649) hx hb dL_law_733 rfl ?_
    exact kk H locs ce1 ce61 _ ls hC1 hP hS (lv_sub hl [2, 3, 4, 5, 6] rfl)
set_option maxRecDepth 100000 in
theorem lc_append (hlt : l.stackTraces = false) (hx : p.tables.exec = Jvm.exec) (hb : c.code = cL_law) (hml : c.maxLocals = 9) (hown : s.vm.findClass RL = some m.cls) (htg : ∀ w ∈ wB, w.before args s = true) (hF : LF D ct cL ad ad6 s) (hX : va_X b L xs s s.heap) (hbl : b < s.heap.size) (hL : L ≤ 2560) (hi : i + 5 ≤ L) (hC : CS ct ad ad6 ce ce6) (hP : LW D cL ad ad6 ce v ce6 H) (hS : va_S (lA s) s.heap H locs) (hl : lv_has ls 9 (lb b ad ad6 i)) (hf : cells + 1 ≤ room_1.cells ∧ slots + 6 ≤ room_1.slots) (kk : LK p l e room_1 s m args below meth c Q D ct cL ad ad6 b i (cells + 1) (slots + 6)) : W p l e room_1 s m args below meth c H locs cells slots Q (F0 m 736 ls []) := by
  refine lv_aload_n hx hb dL_law_736 rfl (lv_at hl 2 rfl) ?_
  refine lv_aload_n hx hb dL_law_737 rfl (lv_at hl 1 rfl) ?_
  refine lv_iload hx hb dL_law_738 (lv_at hl 0 rfl) ?_
  refine lv_iconst (v := nI 1) hx hb dL_law_740 (by decide) ?_
  refine lv_iaddN hx hb dL_law_741 ?_
  refine ls_ld hx hb hX hbl hS (show i + 1 < L by omega) hL dL_law_742 ?_
  refine lv_aload_n hx hb dL_law_743 rfl (lv_at hl 4 rfl) ?_
  obtain ⟨k, ce1, v1, r, ce61, hc1, hc6, hcT, hkv, hC1⟩ := st_append l hlt D ct cL ad ad6 (xs (i + 1)) ce ce6 v hC
  refine lo_S (av := [.ref (ad 0), .int (xs (i + 1)), .ref (ad 198)]) (rest := []) hx hb hml hown htg hF hP hS hl.1 hc1 co_L_127 rfl rfl ⟨Nat.le_of_ble_eq_true rfl, Nat.le_of_ble_eq_true rfl⟩ (Nat.le_of_ble_eq_true rfl) dL_law_744 ⟨by omega, by omega⟩ (fun H locs hP hS => ?_)
  refine lv_istore (lv' := [(5, .int k), (4, .int (nI i)), (0, .ref b), (1, .ref (ad 0)), (2, .ref (ad6 0)), (3, .ref (ad 198))]) hx hb dL_law_747 hl (by decide) rfl (fun ls hl => ?_)
  refine lv_aload_n hx hb dL_law_749 rfl (lv_at hl 4 rfl) ?_
  refine lv_aload_n hx hb dL_law_750 rfl (lv_at hl 2 rfl) ?_
  refine lv_iload hx hb dL_law_751 (lv_at hl 1 rfl) ?_
  refine lv_iconst (v := nI 1) hx hb dL_law_753 (by decide) ?_
  refine lv_iaddN hx hb dL_law_754 ?_
  refine ls_ld hx hb hX hbl hS (show i + 1 < L by omega) hL dL_law_755 ?_
  refine lo_M (As := [.int (xs (i + 1))]) (rest := []) hx hb hml hown htg hF hP hS hl.1 hc6 cw_L_129 hC.h6 rfl rfl ⟨Nat.le_of_ble_eq_true rfl, Nat.le_of_ble_eq_true rfl⟩ (Nat.le_of_ble_eq_true rfl) dL_law_756 ⟨by omega, by omega⟩ (fun H locs hP hS => ?_)
  refine lv_istore (lv' := [(6, .int r), (5, .int k), (4, .int (nI i)), (0, .ref b), (1, .ref (ad 0)), (2, .ref (ad6 0)), (3, .ref (ad 198))]) hx hb dL_law_759 hl (by decide) rfl (fun ls hl => ?_)
  refine lv_aload_n hx hb dL_law_761 rfl (lv_at hl 5 rfl) ?_
  refine lo_M (As := []) (rest := []) hx hb hml hown htg hF hP hS hl.1 hcT cw_L_98 hC1.h6 rfl rfl ⟨Nat.le_of_ble_eq_true rfl, Nat.le_of_ble_eq_true rfl⟩ (Nat.le_of_ble_eq_true rfl) dL_law_762 ⟨by omega, by omega⟩ (fun H locs hP hS => ?_)
  refine lv_iload hx hb dL_law_765 (lv_at hl 1 rfl) ?_
  refine lv_icmp_eq (tgt := 772) hx hb dL_law_767 rfl (fun _ => ?_) (fun h => absurd rfl h)
  refine lv_iload hx hb dL_law_772 (lv_at hl 1 rfl) ?_
  refine lv_if_ne (tgt := 789) hx hb dL_law_774 rfl (fun _ => ?_) (fun hk0 => ?_)
  · refine lv_goto (tgt := 1649) hx hb dL_law_789 rfl ?_
    exact kk H locs ce1 ce61 _ ls hC1 hP hS (lv_sub hl [2, 3, 4, 5, 6] rfl)
  · refine lv_aload_n hx hb dL_law_777 rfl (lv_at hl 6 rfl) ?_
    refine lv_iconst (v := 0) hx hb dL_law_778 rfl ?_
    refine lo_out hx hb hF hP dL_law_779 ?_
    refine lv_iload hx hb dL_law_780 (lv_at hl 0 rfl) ?_
    refine lv_i2l (v := r.toInt64) hx hb dL_law_782 rfl ?_
    refine lw_lcmp_eq hx hb (hkv hk0) dL_law_783 ?_
    refine lv_if_eq (tgt := 789) hx hb dL_law_784 rfl (fun _ => ?_) (fun h => absurd rfl h)
    refine lv_goto (tgt := 1649) hx hb dL_law_789 rfl ?_
    exact kk H locs ce1 ce61 _ ls hC1 hP hS (lv_sub hl [2, 3, 4, 5, 6] rfl)
set_option maxRecDepth 100000 in
theorem lc_clearBuffer (hlt : l.stackTraces = false) (hx : p.tables.exec = Jvm.exec) (hb : c.code = cL_law) (hml : c.maxLocals = 9) (hown : s.vm.findClass RL = some m.cls) (htg : ∀ w ∈ wB, w.before args s = true) (hF : LF D ct cL ad ad6 s) (hX : va_X b L xs s s.heap) (hbl : b < s.heap.size) (hL : L ≤ 2560) (hi : i + 5 ≤ L) (hC : CS ct ad ad6 ce ce6) (hP : LW D cL ad ad6 ce v ce6 H) (hS : va_S (lA s) s.heap H locs) (hl : lv_has ls 9 (lb b ad ad6 i)) (hf : cells + 1 ≤ room_1.cells ∧ slots + 6 ≤ room_1.slots) (kk : LK p l e room_1 s m args below meth c Q D ct cL ad ad6 b i (cells + 1) (slots + 6)) : W p l e room_1 s m args below meth c H locs cells slots Q (F0 m 792 ls []) := by
  refine lv_aload_n hx hb dL_law_792 rfl (lv_at hl 2 rfl) ?_
  obtain ⟨r, ce1, ce61, hc1, hc6, hC1⟩ := st_clearBuffer l D ct ad ad6 ce ce6 hC
  refine lo_X (As := []) (rest := []) hx hb hml hown htg hF hP hS hl.1 hc1 cw_L_130 hC.h5 rfl rfl ⟨Nat.le_of_ble_eq_true rfl, Nat.le_of_ble_eq_true rfl⟩ (Nat.le_of_ble_eq_true rfl) dL_law_793 ⟨by omega, by omega⟩ (fun H locs hP hS => ?_)
  refine lv_aload_n hx hb dL_law_796 rfl (lv_at hl 3 rfl) ?_
  refine lo_M (As := []) (rest := [.int r]) hx hb hml hown htg hF hP hS hl.1 hc6 cw_L_133 hC.h6 rfl rfl ⟨Nat.le_of_ble_eq_true rfl, Nat.le_of_ble_eq_true rfl⟩ (Nat.le_of_ble_eq_true rfl) dL_law_797 ⟨by omega, by omega⟩ (fun H locs hP hS => ?_)
  refine lv_icmp_eq (tgt := 1649) hx hb dL_law_800 rfl (fun _ => ?_) (fun h => absurd rfl h)
  exact W_wide (Nat.le_add_right _ _) (Nat.le_add_right _ _) (kk H locs ce1 ce61 _ ls hC1 hP hS hl)
set_option maxRecDepth 100000 in
theorem lc_firstError (hlt : l.stackTraces = false) (hx : p.tables.exec = Jvm.exec) (hb : c.code = cL_law) (hml : c.maxLocals = 9) (hown : s.vm.findClass RL = some m.cls) (htg : ∀ w ∈ wB, w.before args s = true) (hF : LF D ct cL ad ad6 s) (hX : va_X b L xs s s.heap) (hbl : b < s.heap.size) (hL : L ≤ 2560) (hi : i + 5 ≤ L) (hC : CS ct ad ad6 ce ce6) (hP : LW D cL ad ad6 ce v ce6 H) (hS : va_S (lA s) s.heap H locs) (hl : lv_has ls 9 (lb b ad ad6 i)) (hf : cells + 1 ≤ room_1.cells ∧ slots + 6 ≤ room_1.slots) (kk : LK p l e room_1 s m args below meth c Q D ct cL ad ad6 b i (cells + 1) (slots + 6)) : W p l e room_1 s m args below meth c H locs cells slots Q (F0 m 805 ls []) := by
  refine lv_aload_n hx hb dL_law_805 rfl (lv_at hl 2 rfl) ?_
  obtain ⟨r, ce1, ce61, hc1, hc6, hC1⟩ := st_firstError l D ct ad ad6 ce ce6 hC
  refine lo_X (As := []) (rest := []) hx hb hml hown htg hF hP hS hl.1 hc1 cw_L_134 hC.h5 rfl rfl ⟨Nat.le_of_ble_eq_true rfl, Nat.le_of_ble_eq_true rfl⟩ (Nat.le_of_ble_eq_true rfl) dL_law_806 ⟨by omega, by omega⟩ (fun H locs hP hS => ?_)
  refine lv_aload_n hx hb dL_law_809 rfl (lv_at hl 3 rfl) ?_
  refine lo_M (As := []) (rest := [.int r]) hx hb hml hown htg hF hP hS hl.1 hc6 cw_L_137 hC.h6 rfl rfl ⟨Nat.le_of_ble_eq_true rfl, Nat.le_of_ble_eq_true rfl⟩ (Nat.le_of_ble_eq_true rfl) dL_law_810 ⟨by omega, by omega⟩ (fun H locs hP hS => ?_)
  refine lv_icmp_eq (tgt := 1649) hx hb dL_law_813 rfl (fun _ => ?_) (fun h => absurd rfl h)
  exact W_wide (Nat.le_add_right _ _) (Nat.le_add_right _ _) (kk H locs ce1 ce61 _ ls hC1 hP hS hl)
set_option maxRecDepth 100000 in
theorem lc_open (hlt : l.stackTraces = false) (hx : p.tables.exec = Jvm.exec) (hb : c.code = cL_law) (hml : c.maxLocals = 9) (hown : s.vm.findClass RL = some m.cls) (htg : ∀ w ∈ wB, w.before args s = true) (hF : LF D ct cL ad ad6 s) (hX : va_X b L xs s s.heap) (hbl : b < s.heap.size) (hL : L ≤ 2560) (hi : i + 5 ≤ L) (hC : CS ct ad ad6 ce ce6) (hP : LW D cL ad ad6 ce v ce6 H) (hS : va_S (lA s) s.heap H locs) (hl : lv_has ls 9 (lb b ad ad6 i)) (hf : cells + 1 ≤ room_1.cells ∧ slots + 6 ≤ room_1.slots) (kk : LK p l e room_1 s m args below meth c Q D ct cL ad ad6 b i (cells + 1) (slots + 6)) : W p l e room_1 s m args below meth c H locs cells slots Q (F0 m 818 ls []) := by
  refine lv_aload_n hx hb dL_law_818 rfl (lv_at hl 2 rfl) ?_
  refine lv_aload_n hx hb dL_law_819 rfl (lv_at hl 4 rfl) ?_
  obtain ⟨k, ce1, v1, r, ce61, hc1, hc6, hcT, hkv, hC1⟩ := st_open l hlt D ct cL ad ad6  ce ce6 v hC
  refine lo_S (av := [.ref (ad 0), .ref (ad 198)]) (rest := []) hx hb hml hown htg hF hP hS hl.1 hc1 co_L_138 rfl rfl ⟨Nat.le_of_ble_eq_true rfl, Nat.le_of_ble_eq_true rfl⟩ (Nat.le_of_ble_eq_true rfl) dL_law_820 ⟨by omega, by omega⟩ (fun H locs hP hS => ?_)
  refine lv_istore (lv' := [(5, .int k), (4, .int (nI i)), (0, .ref b), (1, .ref (ad 0)), (2, .ref (ad6 0)), (3, .ref (ad 198))]) hx hb dL_law_823 hl (by decide) rfl (fun ls hl => ?_)
  refine lv_aload_n hx hb dL_law_825 rfl (lv_at hl 4 rfl) ?_
  refine lo_M (As := []) (rest := []) hx hb hml hown htg hF hP hS hl.1 hc6 cw_L_141 hC.h6 rfl rfl ⟨Nat.le_of_ble_eq_true rfl, Nat.le_of_ble_eq_true rfl⟩ (Nat.le_of_ble_eq_true rfl) dL_law_826 ⟨by omega, by omega⟩ (fun H locs hP hS => ?_)
  refine lv_istore (lv' := [(6, .int r), (5, .int k), (4, .int (nI i)), (0, .ref b), (1, .ref (ad 0)), (2, .ref (ad6 0)), (3, .ref (ad 198))]) hx hb dL_law_829 hl (by decide) rfl (fun ls hl => ?_)
  refine lv_aload_n hx hb dL_law_831 rfl (lv_at hl 5 rfl) ?_
  refine lo_M (As := []) (rest := []) hx hb hml hown htg hF hP hS hl.1 hcT cw_L_98 hC1.h6 rfl rfl ⟨Nat.le_of_ble_eq_true rfl, Nat.le_of_ble_eq_true rfl⟩ (Nat.le_of_ble_eq_true rfl) dL_law_832 ⟨by omega, by omega⟩ (fun H locs hP hS => ?_)
  refine lv_iload hx hb dL_law_835 (lv_at hl 1 rfl) ?_
  refine lv_icmp_eq (tgt := 842) hx hb dL_law_837 rfl (fun _ => ?_) (fun h => absurd rfl h)
  refine lv_iload hx hb dL_law_842 (lv_at hl 1 rfl) ?_
  refine lv_if_ne (tgt := 859) hx hb dL_law_844 rfl (fun _ => ?_) (fun hk0 => ?_)
  · refine lv_goto (tgt := 1649) hx hb dL_law_859 rfl ?_
    exact kk H locs ce1 ce61 _ ls hC1 hP hS (lv_sub hl [2, 3, 4, 5, 6] rfl)
  · refine lv_aload_n hx hb dL_law_847 rfl (lv_at hl 6 rfl) ?_
    refine lv_iconst (v := 0) hx hb dL_law_848 rfl ?_
    refine lo_out hx hb hF hP dL_law_849 ?_
    refine lv_iload hx hb dL_law_850 (lv_at hl 0 rfl) ?_
    refine lv_i2l (v := r.toInt64) hx hb dL_law_852 rfl ?_
    refine lw_lcmp_eq hx hb (hkv hk0) dL_law_853 ?_
    refine lv_if_eq (tgt := 859) hx hb dL_law_854 rfl (fun _ => ?_) (fun h => absurd rfl h)
    refine lv_goto (tgt := 1649) hx hb dL_law_859 rfl ?_
    exact kk H locs ce1 ce61 _ ls hC1 hP hS (lv_sub hl [2, 3, 4, 5, 6] rfl)
set_option maxRecDepth 100000 in
theorem lc_keep (hlt : l.stackTraces = false) (hx : p.tables.exec = Jvm.exec) (hb : c.code = cL_law) (hml : c.maxLocals = 9) (hown : s.vm.findClass RL = some m.cls) (htg : ∀ w ∈ wB, w.before args s = true) (hF : LF D ct cL ad ad6 s) (hX : va_X b L xs s s.heap) (hbl : b < s.heap.size) (hL : L ≤ 2560) (hi : i + 5 ≤ L) (hC : CS ct ad ad6 ce ce6) (hP : LW D cL ad ad6 ce v ce6 H) (hS : va_S (lA s) s.heap H locs) (hl : lv_has ls 9 (lb b ad ad6 i)) (hf : cells + 1 ≤ room_1.cells ∧ slots + 6 ≤ room_1.slots) (kk : LK p l e room_1 s m args below meth c Q D ct cL ad ad6 b i (cells + 1) (slots + 6)) : W p l e room_1 s m args below meth c H locs cells slots Q (F0 m 862 ls []) := by
  refine lv_aload_n hx hb dL_law_862 rfl (lv_at hl 2 rfl) ?_
  refine lv_aload_n hx hb dL_law_863 rfl (lv_at hl 1 rfl) ?_
  refine lv_iload hx hb dL_law_864 (lv_at hl 0 rfl) ?_
  refine lv_iconst (v := nI 1) hx hb dL_law_866 (by decide) ?_
  refine lv_iaddN hx hb dL_law_867 ?_
  refine ls_ld hx hb hX hbl hS (show i + 1 < L by omega) hL dL_law_868 ?_
  refine lv_aload_n hx hb dL_law_869 rfl (lv_at hl 4 rfl) ?_
  obtain ⟨k, ce1, v1, r, ce61, hc1, hc6, hcT, hkv, hC1⟩ := st_keep l hlt D ct cL ad ad6 (xs (i + 1)) ce ce6 v hC
  refine lo_S (av := [.ref (ad 0), .int (xs (i + 1)), .ref (ad 198)]) (rest := []) hx hb hml hown htg hF hP hS hl.1 hc1 co_L_142 rfl rfl ⟨Nat.le_of_ble_eq_true rfl, Nat.le_of_ble_eq_true rfl⟩ (Nat.le_of_ble_eq_true rfl) dL_law_870 ⟨by omega, by omega⟩ (fun H locs hP hS => ?_)
  refine lv_istore (lv' := [(5, .int k), (4, .int (nI i)), (0, .ref b), (1, .ref (ad 0)), (2, .ref (ad6 0)), (3, .ref (ad 198))]) hx hb dL_law_873 hl (by decide) rfl (fun ls hl => ?_)
  refine lv_aload_n hx hb dL_law_875 rfl (lv_at hl 4 rfl) ?_
  refine lv_aload_n hx hb dL_law_876 rfl (lv_at hl 2 rfl) ?_
  refine lv_iload hx hb dL_law_877 (lv_at hl 1 rfl) ?_
  refine lv_iconst (v := nI 1) hx hb dL_law_879 (by decide) ?_
  refine lv_iaddN hx hb dL_law_880 ?_
  refine ls_ld hx hb hX hbl hS (show i + 1 < L by omega) hL dL_law_881 ?_
  refine lo_M (As := [.int (xs (i + 1))]) (rest := []) hx hb hml hown htg hF hP hS hl.1 hc6 cw_L_144 hC.h6 rfl rfl ⟨Nat.le_of_ble_eq_true rfl, Nat.le_of_ble_eq_true rfl⟩ (Nat.le_of_ble_eq_true rfl) dL_law_882 ⟨by omega, by omega⟩ (fun H locs hP hS => ?_)
  refine lv_istore (lv' := [(6, .int r), (5, .int k), (4, .int (nI i)), (0, .ref b), (1, .ref (ad 0)), (2, .ref (ad6 0)), (3, .ref (ad 198))]) hx hb dL_law_885 hl (by decide) rfl (fun ls hl => ?_)
  refine lv_aload_n hx hb dL_law_887 rfl (lv_at hl 5 rfl) ?_
  refine lo_M (As := []) (rest := []) hx hb hml hown htg hF hP hS hl.1 hcT cw_L_98 hC1.h6 rfl rfl ⟨Nat.le_of_ble_eq_true rfl, Nat.le_of_ble_eq_true rfl⟩ (Nat.le_of_ble_eq_true rfl) dL_law_888 ⟨by omega, by omega⟩ (fun H locs hP hS => ?_)
  refine lv_iload hx hb dL_law_891 (lv_at hl 1 rfl) ?_
  refine lv_icmp_eq (tgt := 898) hx hb dL_law_893 rfl (fun _ => ?_) (fun h => absurd rfl h)
  refine lv_iload hx hb dL_law_898 (lv_at hl 1 rfl) ?_
  refine lv_if_ne (tgt := 915) hx hb dL_law_900 rfl (fun _ => ?_) (fun hk0 => ?_)
  · refine lv_goto (tgt := 1649) hx hb dL_law_915 rfl ?_
    exact kk H locs ce1 ce61 _ ls hC1 hP hS (lv_sub hl [2, 3, 4, 5, 6] rfl)
  · refine lv_aload_n hx hb dL_law_903 rfl (lv_at hl 6 rfl) ?_
    refine lv_iconst (v := 0) hx hb dL_law_904 rfl ?_
    refine lo_out hx hb hF hP dL_law_905 ?_
    refine lv_iload hx hb dL_law_906 (lv_at hl 0 rfl) ?_
    refine lv_i2l (v := r.toInt64) hx hb dL_law_908 rfl ?_
    refine lw_lcmp_eq hx hb (hkv hk0) dL_law_909 ?_
    refine lv_if_eq (tgt := 915) hx hb dL_law_910 rfl (fun _ => ?_) (fun h => absurd rfl h)
    refine lv_goto (tgt := 1649) hx hb dL_law_915 rfl ?_
    exact kk H locs ce1 ce61 _ ls hC1 hP hS (lv_sub hl [2, 3, 4, 5, 6] rfl)
set_option maxRecDepth 100000 in
theorem lc_goBack (hlt : l.stackTraces = false) (hx : p.tables.exec = Jvm.exec) (hb : c.code = cL_law) (hml : c.maxLocals = 9) (hown : s.vm.findClass RL = some m.cls) (htg : ∀ w ∈ wB, w.before args s = true) (hF : LF D ct cL ad ad6 s) (hX : va_X b L xs s s.heap) (hbl : b < s.heap.size) (hL : L ≤ 2560) (hi : i + 5 ≤ L) (hC : CS ct ad ad6 ce ce6) (hP : LW D cL ad ad6 ce v ce6 H) (hS : va_S (lA s) s.heap H locs) (hl : lv_has ls 9 (lb b ad ad6 i)) (hf : cells + 1 ≤ room_1.cells ∧ slots + 6 ≤ room_1.slots) (kk : LK p l e room_1 s m args below meth c Q D ct cL ad ad6 b i (cells + 1) (slots + 6)) : W p l e room_1 s m args below meth c H locs cells slots Q (F0 m 918 ls []) := by
  refine lv_aload_n hx hb dL_law_918 rfl (lv_at hl 2 rfl) ?_
  refine lv_aload_n hx hb dL_law_919 rfl (lv_at hl 1 rfl) ?_
  refine lv_iload hx hb dL_law_920 (lv_at hl 0 rfl) ?_
  refine lv_iconst (v := nI 1) hx hb dL_law_922 (by decide) ?_
  refine lv_iaddN hx hb dL_law_923 ?_
  refine ls_ld hx hb hX hbl hS (show i + 1 < L by omega) hL dL_law_924 ?_
  refine lv_aload_n hx hb dL_law_925 rfl (lv_at hl 4 rfl) ?_
  obtain ⟨k, ce1, v1, r, ce61, hc1, hc6, hcT, hkv, hC1⟩ := st_goBack l hlt D ct cL ad ad6 (xs (i + 1)) ce ce6 v hC
  refine lo_S (av := [.ref (ad 0), .int (xs (i + 1)), .ref (ad 198)]) (rest := []) hx hb hml hown htg hF hP hS hl.1 hc1 co_L_145 rfl rfl ⟨Nat.le_of_ble_eq_true rfl, Nat.le_of_ble_eq_true rfl⟩ (Nat.le_of_ble_eq_true rfl) dL_law_926 ⟨by omega, by omega⟩ (fun H locs hP hS => ?_)
  refine lv_istore (lv' := [(5, .int k), (4, .int (nI i)), (0, .ref b), (1, .ref (ad 0)), (2, .ref (ad6 0)), (3, .ref (ad 198))]) hx hb dL_law_929 hl (by decide) rfl (fun ls hl => ?_)
  refine lv_aload_n hx hb dL_law_931 rfl (lv_at hl 4 rfl) ?_
  refine lv_aload_n hx hb dL_law_932 rfl (lv_at hl 2 rfl) ?_
  refine lv_iload hx hb dL_law_933 (lv_at hl 1 rfl) ?_
  refine lv_iconst (v := nI 1) hx hb dL_law_935 (by decide) ?_
  refine lv_iaddN hx hb dL_law_936 ?_
  refine ls_ld hx hb hX hbl hS (show i + 1 < L by omega) hL dL_law_937 ?_
  refine lo_M (As := [.int (xs (i + 1))]) (rest := []) hx hb hml hown htg hF hP hS hl.1 hc6 cw_L_147 hC.h6 rfl rfl ⟨Nat.le_of_ble_eq_true rfl, Nat.le_of_ble_eq_true rfl⟩ (Nat.le_of_ble_eq_true rfl) dL_law_938 ⟨by omega, by omega⟩ (fun H locs hP hS => ?_)
  refine lv_istore (lv' := [(6, .int r), (5, .int k), (4, .int (nI i)), (0, .ref b), (1, .ref (ad 0)), (2, .ref (ad6 0)), (3, .ref (ad 198))]) hx hb dL_law_941 hl (by decide) rfl (fun ls hl => ?_)
  refine lv_aload_n hx hb dL_law_943 rfl (lv_at hl 5 rfl) ?_
  refine lo_M (As := []) (rest := []) hx hb hml hown htg hF hP hS hl.1 hcT cw_L_98 hC1.h6 rfl rfl ⟨Nat.le_of_ble_eq_true rfl, Nat.le_of_ble_eq_true rfl⟩ (Nat.le_of_ble_eq_true rfl) dL_law_944 ⟨by omega, by omega⟩ (fun H locs hP hS => ?_)
  refine lv_iload hx hb dL_law_947 (lv_at hl 1 rfl) ?_
  refine lv_icmp_eq (tgt := 954) hx hb dL_law_949 rfl (fun _ => ?_) (fun h => absurd rfl h)
  refine lv_iload hx hb dL_law_954 (lv_at hl 1 rfl) ?_
  refine lv_if_ne (tgt := 971) hx hb dL_law_956 rfl (fun _ => ?_) (fun hk0 => ?_)
  · refine lv_goto (tgt := 1649) hx hb dL_law_971 rfl ?_
    exact kk H locs ce1 ce61 _ ls hC1 hP hS (lv_sub hl [2, 3, 4, 5, 6] rfl)
  · refine lv_aload_n hx hb dL_law_959 rfl (lv_at hl 6 rfl) ?_
    refine lv_iconst (v := 0) hx hb dL_law_960 rfl ?_
    refine lo_out hx hb hF hP dL_law_961 ?_
    refine lv_iload hx hb dL_law_962 (lv_at hl 0 rfl) ?_
    refine lv_i2l (v := r.toInt64) hx hb dL_law_964 rfl ?_
    refine lw_lcmp_eq hx hb (hkv hk0) dL_law_965 ?_
    refine lv_if_eq (tgt := 971) hx hb dL_law_966 rfl (fun _ => ?_) (fun h => absurd rfl h)
    refine lv_goto (tgt := 1649) hx hb dL_law_971 rfl ?_
    exact kk H locs ce1 ce61 _ ls hC1 hP hS (lv_sub hl [2, 3, 4, 5, 6] rfl)
set_option maxRecDepth 100000 in
theorem lc_undo (hlt : l.stackTraces = false) (hx : p.tables.exec = Jvm.exec) (hb : c.code = cL_law) (hml : c.maxLocals = 9) (hown : s.vm.findClass RL = some m.cls) (htg : ∀ w ∈ wB, w.before args s = true) (hF : LF D ct cL ad ad6 s) (hX : va_X b L xs s s.heap) (hbl : b < s.heap.size) (hL : L ≤ 2560) (hi : i + 5 ≤ L) (hC : CS ct ad ad6 ce ce6) (hP : LW D cL ad ad6 ce v ce6 H) (hS : va_S (lA s) s.heap H locs) (hl : lv_has ls 9 (lb b ad ad6 i)) (hf : cells + 1 ≤ room_1.cells ∧ slots + 6 ≤ room_1.slots) (kk : LK p l e room_1 s m args below meth c Q D ct cL ad ad6 b i (cells + 1) (slots + 6)) : W p l e room_1 s m args below meth c H locs cells slots Q (F0 m 974 ls []) := by
  refine lv_aload_n hx hb dL_law_974 rfl (lv_at hl 2 rfl) ?_
  refine lv_aload_n hx hb dL_law_975 rfl (lv_at hl 4 rfl) ?_
  obtain ⟨k, ce1, v1, r, ce61, hc1, hc6, hcT, hkv, hC1⟩ := st_undo l hlt D ct cL ad ad6  ce ce6 v hC
  refine lo_S (av := [.ref (ad 0), .ref (ad 198)]) (rest := []) hx hb hml hown htg hF hP hS hl.1 hc1 co_L_148 rfl rfl ⟨Nat.le_of_ble_eq_true rfl, Nat.le_of_ble_eq_true rfl⟩ (Nat.le_of_ble_eq_true rfl) dL_law_976 ⟨by omega, by omega⟩ (fun H locs hP hS => ?_)
  refine lv_istore (lv' := [(5, .int k), (4, .int (nI i)), (0, .ref b), (1, .ref (ad 0)), (2, .ref (ad6 0)), (3, .ref (ad 198))]) hx hb dL_law_979 hl (by decide) rfl (fun ls hl => ?_)
  refine lv_aload_n hx hb dL_law_981 rfl (lv_at hl 4 rfl) ?_
  refine lo_M (As := []) (rest := []) hx hb hml hown htg hF hP hS hl.1 hc6 cw_L_150 hC.h6 rfl rfl ⟨Nat.le_of_ble_eq_true rfl, Nat.le_of_ble_eq_true rfl⟩ (Nat.le_of_ble_eq_true rfl) dL_law_982 ⟨by omega, by omega⟩ (fun H locs hP hS => ?_)
  refine lv_istore (lv' := [(6, .int r), (5, .int k), (4, .int (nI i)), (0, .ref b), (1, .ref (ad 0)), (2, .ref (ad6 0)), (3, .ref (ad 198))]) hx hb dL_law_985 hl (by decide) rfl (fun ls hl => ?_)
  refine lv_aload_n hx hb dL_law_987 rfl (lv_at hl 5 rfl) ?_
  refine lo_M (As := []) (rest := []) hx hb hml hown htg hF hP hS hl.1 hcT cw_L_98 hC1.h6 rfl rfl ⟨Nat.le_of_ble_eq_true rfl, Nat.le_of_ble_eq_true rfl⟩ (Nat.le_of_ble_eq_true rfl) dL_law_988 ⟨by omega, by omega⟩ (fun H locs hP hS => ?_)
  refine lv_iload hx hb dL_law_991 (lv_at hl 1 rfl) ?_
  refine lv_icmp_eq (tgt := 998) hx hb dL_law_993 rfl (fun _ => ?_) (fun h => absurd rfl h)
  refine lv_iload hx hb dL_law_998 (lv_at hl 1 rfl) ?_
  refine lv_if_ne (tgt := 1015) hx hb dL_law_1000 rfl (fun _ => ?_) (fun hk0 => ?_)
  · refine lv_goto (tgt := 1649) hx hb dL_law_1015 rfl ?_
    exact kk H locs ce1 ce61 _ ls hC1 hP hS (lv_sub hl [2, 3, 4, 5, 6] rfl)
  · refine lv_aload_n hx hb dL_law_1003 rfl (lv_at hl 6 rfl) ?_
    refine lv_iconst (v := 0) hx hb dL_law_1004 rfl ?_
    refine lo_out hx hb hF hP dL_law_1005 ?_
    refine lv_iload hx hb dL_law_1006 (lv_at hl 0 rfl) ?_
    refine lv_i2l (v := r.toInt64) hx hb dL_law_1008 rfl ?_
    refine lw_lcmp_eq hx hb (hkv hk0) dL_law_1009 ?_
    refine lv_if_eq (tgt := 1015) hx hb dL_law_1010 rfl (fun _ => ?_) (fun h => absurd rfl h)
    refine lv_goto (tgt := 1649) hx hb dL_law_1015 rfl ?_
    exact kk H locs ce1 ce61 _ ls hC1 hP hS (lv_sub hl [2, 3, 4, 5, 6] rfl)
set_option maxRecDepth 100000 in
theorem lc_stallOf (hlt : l.stackTraces = false) (hx : p.tables.exec = Jvm.exec) (hb : c.code = cL_law) (hml : c.maxLocals = 9) (hown : s.vm.findClass RL = some m.cls) (htg : ∀ w ∈ wB, w.before args s = true) (hF : LF D ct cL ad ad6 s) (hX : va_X b L xs s s.heap) (hbl : b < s.heap.size) (hL : L ≤ 2560) (hi : i + 5 ≤ L) (hC : CS ct ad ad6 ce ce6) (hP : LW D cL ad ad6 ce v ce6 H) (hS : va_S (lA s) s.heap H locs) (hl : lv_has ls 9 (lb b ad ad6 i)) (hf : cells + 1 ≤ room_1.cells ∧ slots + 6 ≤ room_1.slots) (kk : LK p l e room_1 s m args below meth c Q D ct cL ad ad6 b i (cells + 1) (slots + 6)) : W p l e room_1 s m args below meth c H locs cells slots Q (F0 m 1018 ls []) := by
  refine lv_aload_n hx hb dL_law_1018 rfl (lv_at hl 2 rfl) ?_
  refine lv_aload_n hx hb dL_law_1019 rfl (lv_at hl 1 rfl) ?_
  refine lv_iload hx hb dL_law_1020 (lv_at hl 0 rfl) ?_
  refine lv_iconst (v := nI 1) hx hb dL_law_1022 (by decide) ?_
  refine lv_iaddN hx hb dL_law_1023 ?_
  refine ls_ld hx hb hX hbl hS (show i + 1 < L by omega) hL dL_law_1024 ?_
  refine lv_aload_n hx hb dL_law_1025 rfl (lv_at hl 1 rfl) ?_
  refine lv_iload hx hb dL_law_1026 (lv_at hl 0 rfl) ?_
  refine lv_iconst (v := nI 2) hx hb dL_law_1028 (by decide) ?_
  refine lv_iaddN hx hb dL_law_1029 ?_
  refine ls_ld hx hb hX hbl hS (show i + 2 < L by omega) hL dL_law_1030 ?_
  refine lv_aload_n hx hb dL_law_1031 rfl (lv_at hl 4 rfl) ?_
  obtain ⟨k, ce1, v1, r, ce61, hc1, hc6, hcT, hkv, hC1⟩ := st_stallOf l hlt D ct cL ad ad6 (xs (i + 1)) (xs (i + 2)) ce ce6 v hC
  refine lo_S (av := [.ref (ad 0), .int (xs (i + 1)), .int (xs (i + 2)), .ref (ad 198)]) (rest := []) hx hb hml hown htg hF hP hS hl.1 hc1 co_L_151 rfl rfl ⟨Nat.le_of_ble_eq_true rfl, Nat.le_of_ble_eq_true rfl⟩ (Nat.le_of_ble_eq_true rfl) dL_law_1032 ⟨by omega, by omega⟩ (fun H locs hP hS => ?_)
  refine lv_istore (lv' := [(5, .int k), (4, .int (nI i)), (0, .ref b), (1, .ref (ad 0)), (2, .ref (ad6 0)), (3, .ref (ad 198))]) hx hb dL_law_1035 hl (by decide) rfl (fun ls hl => ?_)
  refine lv_aload_n hx hb dL_law_1037 rfl (lv_at hl 4 rfl) ?_
  refine lv_aload_n hx hb dL_law_1038 rfl (lv_at hl 2 rfl) ?_
  refine lv_iload hx hb dL_law_1039 (lv_at hl 1 rfl) ?_
  refine lv_iconst (v := nI 1) hx hb dL_law_1041 (by decide) ?_
  refine lv_iaddN hx hb dL_law_1042 ?_
  refine ls_ld hx hb hX hbl hS (show i + 1 < L by omega) hL dL_law_1043 ?_
  refine lv_aload_n hx hb dL_law_1044 rfl (lv_at hl 2 rfl) ?_
  refine lv_iload hx hb dL_law_1045 (lv_at hl 1 rfl) ?_
  refine lv_iconst (v := nI 2) hx hb dL_law_1047 (by decide) ?_
  refine lv_iaddN hx hb dL_law_1048 ?_
  refine ls_ld hx hb hX hbl hS (show i + 2 < L by omega) hL dL_law_1049 ?_
  refine lo_M (As := [.int (xs (i + 1)), .int (xs (i + 2))]) (rest := []) hx hb hml hown htg hF hP hS hl.1 hc6 cw_L_153 hC.h6 rfl rfl ⟨Nat.le_of_ble_eq_true rfl, Nat.le_of_ble_eq_true rfl⟩ (Nat.le_of_ble_eq_true rfl) dL_law_1050 ⟨by omega, by omega⟩ (fun H locs hP hS => ?_)
  refine lv_istore (lv' := [(6, .int r), (5, .int k), (4, .int (nI i)), (0, .ref b), (1, .ref (ad 0)), (2, .ref (ad6 0)), (3, .ref (ad 198))]) hx hb dL_law_1053 hl (by decide) rfl (fun ls hl => ?_)
  refine lv_aload_n hx hb dL_law_1055 rfl (lv_at hl 5 rfl) ?_
  refine lo_M (As := []) (rest := []) hx hb hml hown htg hF hP hS hl.1 hcT cw_L_98 hC1.h6 rfl rfl ⟨Nat.le_of_ble_eq_true rfl, Nat.le_of_ble_eq_true rfl⟩ (Nat.le_of_ble_eq_true rfl) dL_law_1056 ⟨by omega, by omega⟩ (fun H locs hP hS => ?_)
  refine lv_iload hx hb dL_law_1059 (lv_at hl 1 rfl) ?_
  refine lv_icmp_eq (tgt := 1066) hx hb dL_law_1061 rfl (fun _ => ?_) (fun h => absurd rfl h)
  refine lv_iload hx hb dL_law_1066 (lv_at hl 1 rfl) ?_
  refine lv_if_ne (tgt := 1083) hx hb dL_law_1068 rfl (fun _ => ?_) (fun hk0 => ?_)
  · refine lv_goto (tgt := 1649) hx hb dL_law_1083 rfl ?_
    exact kk H locs ce1 ce61 _ ls hC1 hP hS (lv_sub hl [2, 3, 4, 5, 6] rfl)
  · refine lv_aload_n hx hb dL_law_1071 rfl (lv_at hl 6 rfl) ?_
    refine lv_iconst (v := 0) hx hb dL_law_1072 rfl ?_
    refine lo_out hx hb hF hP dL_law_1073 ?_
    refine lv_iload hx hb dL_law_1074 (lv_at hl 0 rfl) ?_
    refine lv_i2l (v := r.toInt64) hx hb dL_law_1076 rfl ?_
    refine lw_lcmp_eq hx hb (hkv hk0) dL_law_1077 ?_
    refine lv_if_eq (tgt := 1083) hx hb dL_law_1078 rfl (fun _ => ?_) (fun h => absurd rfl h)
    refine lv_goto (tgt := 1649) hx hb dL_law_1083 rfl ?_
    exact kk H locs ce1 ce61 _ ls hC1 hP hS (lv_sub hl [2, 3, 4, 5, 6] rfl)
set_option maxRecDepth 100000 in
theorem lc_breaker (hlt : l.stackTraces = false) (hx : p.tables.exec = Jvm.exec) (hb : c.code = cL_law) (hml : c.maxLocals = 9) (hown : s.vm.findClass RL = some m.cls) (htg : ∀ w ∈ wB, w.before args s = true) (hF : LF D ct cL ad ad6 s) (hX : va_X b L xs s s.heap) (hbl : b < s.heap.size) (hL : L ≤ 2560) (hi : i + 5 ≤ L) (hC : CS ct ad ad6 ce ce6) (hP : LW D cL ad ad6 ce v ce6 H) (hS : va_S (lA s) s.heap H locs) (hl : lv_has ls 9 (lb b ad ad6 i)) (hf : cells + 1 ≤ room_1.cells ∧ slots + 6 ≤ room_1.slots) (kk : LK p l e room_1 s m args below meth c Q D ct cL ad ad6 b i (cells + 1) (slots + 6)) : W p l e room_1 s m args below meth c H locs cells slots Q (F0 m 1086 ls []) := by
  refine lv_aload_n hx hb dL_law_1086 rfl (lv_at hl 2 rfl) ?_
  refine lv_aload_n hx hb dL_law_1087 rfl (lv_at hl 1 rfl) ?_
  refine lv_iload hx hb dL_law_1088 (lv_at hl 0 rfl) ?_
  refine lv_iconst (v := nI 1) hx hb dL_law_1090 (by decide) ?_
  refine lv_iaddN hx hb dL_law_1091 ?_
  refine ls_ld hx hb hX hbl hS (show i + 1 < L by omega) hL dL_law_1092 ?_
  refine lv_aload_n hx hb dL_law_1093 rfl (lv_at hl 1 rfl) ?_
  refine lv_iload hx hb dL_law_1094 (lv_at hl 0 rfl) ?_
  refine lv_iconst (v := nI 2) hx hb dL_law_1096 (by decide) ?_
  refine lv_iaddN hx hb dL_law_1097 ?_
  refine ls_ld hx hb hX hbl hS (show i + 2 < L by omega) hL dL_law_1098 ?_
  refine lv_aload_n hx hb dL_law_1099 rfl (lv_at hl 4 rfl) ?_
  obtain ⟨k, ce1, v1, r, ce61, hc1, hc6, hcT, hkv, hC1⟩ := st_breaker l hlt D ct cL ad ad6 (xs (i + 1)) (xs (i + 2)) ce ce6 v hC
  refine lo_S (av := [.ref (ad 0), .int (xs (i + 1)), .int (xs (i + 2)), .ref (ad 198)]) (rest := []) hx hb hml hown htg hF hP hS hl.1 hc1 co_L_154 rfl rfl ⟨Nat.le_of_ble_eq_true rfl, Nat.le_of_ble_eq_true rfl⟩ (Nat.le_of_ble_eq_true rfl) dL_law_1100 ⟨by omega, by omega⟩ (fun H locs hP hS => ?_)
  refine lv_istore (lv' := [(5, .int k), (4, .int (nI i)), (0, .ref b), (1, .ref (ad 0)), (2, .ref (ad6 0)), (3, .ref (ad 198))]) hx hb dL_law_1103 hl (by decide) rfl (fun ls hl => ?_)
  refine lv_aload_n hx hb dL_law_1105 rfl (lv_at hl 4 rfl) ?_
  refine lv_aload_n hx hb dL_law_1106 rfl (lv_at hl 2 rfl) ?_
  refine lv_iload hx hb dL_law_1107 (lv_at hl 1 rfl) ?_
  refine lv_iconst (v := nI 1) hx hb dL_law_1109 (by decide) ?_
  refine lv_iaddN hx hb dL_law_1110 ?_
  refine ls_ld hx hb hX hbl hS (show i + 1 < L by omega) hL dL_law_1111 ?_
  refine lv_aload_n hx hb dL_law_1112 rfl (lv_at hl 2 rfl) ?_
  refine lv_iload hx hb dL_law_1113 (lv_at hl 1 rfl) ?_
  refine lv_iconst (v := nI 2) hx hb dL_law_1115 (by decide) ?_
  refine lv_iaddN hx hb dL_law_1116 ?_
  refine ls_ld hx hb hX hbl hS (show i + 2 < L by omega) hL dL_law_1117 ?_
  refine lo_M (As := [.int (xs (i + 1)), .int (xs (i + 2))]) (rest := []) hx hb hml hown htg hF hP hS hl.1 hc6 cw_L_156 hC.h6 rfl rfl ⟨Nat.le_of_ble_eq_true rfl, Nat.le_of_ble_eq_true rfl⟩ (Nat.le_of_ble_eq_true rfl) dL_law_1118 ⟨by omega, by omega⟩ (fun H locs hP hS => ?_)
  refine lv_istore (lv' := [(6, .int r), (5, .int k), (4, .int (nI i)), (0, .ref b), (1, .ref (ad 0)), (2, .ref (ad6 0)), (3, .ref (ad 198))]) hx hb dL_law_1121 hl (by decide) rfl (fun ls hl => ?_)
  refine lv_aload_n hx hb dL_law_1123 rfl (lv_at hl 5 rfl) ?_
  refine lo_M (As := []) (rest := []) hx hb hml hown htg hF hP hS hl.1 hcT cw_L_98 hC1.h6 rfl rfl ⟨Nat.le_of_ble_eq_true rfl, Nat.le_of_ble_eq_true rfl⟩ (Nat.le_of_ble_eq_true rfl) dL_law_1124 ⟨by omega, by omega⟩ (fun H locs hP hS => ?_)
  refine lv_iload hx hb dL_law_1127 (lv_at hl 1 rfl) ?_
  refine lv_icmp_eq (tgt := 1134) hx hb dL_law_1129 rfl (fun _ => ?_) (fun h => absurd rfl h)
  refine lv_iload hx hb dL_law_1134 (lv_at hl 1 rfl) ?_
  refine lv_if_ne (tgt := 1151) hx hb dL_law_1136 rfl (fun _ => ?_) (fun hk0 => ?_)
  · refine lv_goto (tgt := 1649) hx hb dL_law_1151 rfl ?_
    exact kk H locs ce1 ce61 _ ls hC1 hP hS (lv_sub hl [2, 3, 4, 5, 6] rfl)
  · refine lv_aload_n hx hb dL_law_1139 rfl (lv_at hl 6 rfl) ?_
    refine lv_iconst (v := 0) hx hb dL_law_1140 rfl ?_
    refine lo_out hx hb hF hP dL_law_1141 ?_
    refine lv_iload hx hb dL_law_1142 (lv_at hl 0 rfl) ?_
    refine lv_i2l (v := r.toInt64) hx hb dL_law_1144 rfl ?_
    refine lw_lcmp_eq hx hb (hkv hk0) dL_law_1145 ?_
    refine lv_if_eq (tgt := 1151) hx hb dL_law_1146 rfl (fun _ => ?_) (fun h => absurd rfl h)
    refine lv_goto (tgt := 1649) hx hb dL_law_1151 rfl ?_
    exact kk H locs ce1 ce61 _ ls hC1 hP hS (lv_sub hl [2, 3, 4, 5, 6] rfl)
set_option maxRecDepth 100000 in
theorem lc_socket (hlt : l.stackTraces = false) (hx : p.tables.exec = Jvm.exec) (hb : c.code = cL_law) (hml : c.maxLocals = 9) (hown : s.vm.findClass RL = some m.cls) (htg : ∀ w ∈ wB, w.before args s = true) (hF : LF D ct cL ad ad6 s) (hX : va_X b L xs s s.heap) (hbl : b < s.heap.size) (hL : L ≤ 2560) (hi : i + 5 ≤ L) (hC : CS ct ad ad6 ce ce6) (hP : LW D cL ad ad6 ce v ce6 H) (hS : va_S (lA s) s.heap H locs) (hl : lv_has ls 9 (lb b ad ad6 i)) (hf : cells + 1 ≤ room_1.cells ∧ slots + 6 ≤ room_1.slots) (kk : LK p l e room_1 s m args below meth c Q D ct cL ad ad6 b i (cells + 1) (slots + 6)) : W p l e room_1 s m args below meth c H locs cells slots Q (F0 m 1154 ls []) := by
  refine lv_aload_n hx hb dL_law_1154 rfl (lv_at hl 2 rfl) ?_
  refine lv_aload_n hx hb dL_law_1155 rfl (lv_at hl 1 rfl) ?_
  refine lv_iload hx hb dL_law_1156 (lv_at hl 0 rfl) ?_
  refine lv_iconst (v := nI 1) hx hb dL_law_1158 (by decide) ?_
  refine lv_iaddN hx hb dL_law_1159 ?_
  refine ls_ld hx hb hX hbl hS (show i + 1 < L by omega) hL dL_law_1160 ?_
  refine lv_aload_n hx hb dL_law_1161 rfl (lv_at hl 1 rfl) ?_
  refine lv_iload hx hb dL_law_1162 (lv_at hl 0 rfl) ?_
  refine lv_iconst (v := nI 2) hx hb dL_law_1164 (by decide) ?_
  refine lv_iaddN hx hb dL_law_1165 ?_
  refine ls_ld hx hb hX hbl hS (show i + 2 < L by omega) hL dL_law_1166 ?_
  refine lv_aload_n hx hb dL_law_1167 rfl (lv_at hl 4 rfl) ?_
  obtain ⟨k, ce1, v1, r, ce61, hc1, hc6, hcT, hkv, hC1⟩ := st_socket l hlt D ct cL ad ad6 (xs (i + 1)) (xs (i + 2)) ce ce6 v hC
  refine lo_S (av := [.ref (ad 0), .int (xs (i + 1)), .int (xs (i + 2)), .ref (ad 198)]) (rest := []) hx hb hml hown htg hF hP hS hl.1 hc1 co_L_157 rfl rfl ⟨Nat.le_of_ble_eq_true rfl, Nat.le_of_ble_eq_true rfl⟩ (Nat.le_of_ble_eq_true rfl) dL_law_1168 ⟨by omega, by omega⟩ (fun H locs hP hS => ?_)
  refine lv_istore (lv' := [(5, .int k), (4, .int (nI i)), (0, .ref b), (1, .ref (ad 0)), (2, .ref (ad6 0)), (3, .ref (ad 198))]) hx hb dL_law_1171 hl (by decide) rfl (fun ls hl => ?_)
  refine lv_aload_n hx hb dL_law_1173 rfl (lv_at hl 4 rfl) ?_
  refine lv_aload_n hx hb dL_law_1174 rfl (lv_at hl 2 rfl) ?_
  refine lv_iload hx hb dL_law_1175 (lv_at hl 1 rfl) ?_
  refine lv_iconst (v := nI 1) hx hb dL_law_1177 (by decide) ?_
  refine lv_iaddN hx hb dL_law_1178 ?_
  refine ls_ld hx hb hX hbl hS (show i + 1 < L by omega) hL dL_law_1179 ?_
  refine lv_aload_n hx hb dL_law_1180 rfl (lv_at hl 2 rfl) ?_
  refine lv_iload hx hb dL_law_1181 (lv_at hl 1 rfl) ?_
  refine lv_iconst (v := nI 2) hx hb dL_law_1183 (by decide) ?_
  refine lv_iaddN hx hb dL_law_1184 ?_
  refine ls_ld hx hb hX hbl hS (show i + 2 < L by omega) hL dL_law_1185 ?_
  refine lo_M (As := [.int (xs (i + 1)), .int (xs (i + 2))]) (rest := []) hx hb hml hown htg hF hP hS hl.1 hc6 cw_L_159 hC.h6 rfl rfl ⟨Nat.le_of_ble_eq_true rfl, Nat.le_of_ble_eq_true rfl⟩ (Nat.le_of_ble_eq_true rfl) dL_law_1186 ⟨by omega, by omega⟩ (fun H locs hP hS => ?_)
  refine lv_istore (lv' := [(6, .int r), (5, .int k), (4, .int (nI i)), (0, .ref b), (1, .ref (ad 0)), (2, .ref (ad6 0)), (3, .ref (ad 198))]) hx hb dL_law_1189 hl (by decide) rfl (fun ls hl => ?_)
  refine lv_aload_n hx hb dL_law_1191 rfl (lv_at hl 5 rfl) ?_
  refine lo_M (As := []) (rest := []) hx hb hml hown htg hF hP hS hl.1 hcT cw_L_98 hC1.h6 rfl rfl ⟨Nat.le_of_ble_eq_true rfl, Nat.le_of_ble_eq_true rfl⟩ (Nat.le_of_ble_eq_true rfl) dL_law_1192 ⟨by omega, by omega⟩ (fun H locs hP hS => ?_)
  refine lv_iload hx hb dL_law_1195 (lv_at hl 1 rfl) ?_
  refine lv_icmp_eq (tgt := 1202) hx hb dL_law_1197 rfl (fun _ => ?_) (fun h => absurd rfl h)
  refine lv_iload hx hb dL_law_1202 (lv_at hl 1 rfl) ?_
  refine lv_if_ne (tgt := 1219) hx hb dL_law_1204 rfl (fun _ => ?_) (fun hk0 => ?_)
  · refine lv_goto (tgt := 1649) hx hb dL_law_1219 rfl ?_
    exact kk H locs ce1 ce61 _ ls hC1 hP hS (lv_sub hl [2, 3, 4, 5, 6] rfl)
  · refine lv_aload_n hx hb dL_law_1207 rfl (lv_at hl 6 rfl) ?_
    refine lv_iconst (v := 0) hx hb dL_law_1208 rfl ?_
    refine lo_out hx hb hF hP dL_law_1209 ?_
    refine lv_iload hx hb dL_law_1210 (lv_at hl 0 rfl) ?_
    refine lv_i2l (v := r.toInt64) hx hb dL_law_1212 rfl ?_
    refine lw_lcmp_eq hx hb (hkv hk0) dL_law_1213 ?_
    refine lv_if_eq (tgt := 1219) hx hb dL_law_1214 rfl (fun _ => ?_) (fun h => absurd rfl h)
    refine lv_goto (tgt := 1649) hx hb dL_law_1219 rfl ?_
    exact kk H locs ce1 ce61 _ ls hC1 hP hS (lv_sub hl [2, 3, 4, 5, 6] rfl)
set_option maxRecDepth 100000 in
theorem lc_count (hlt : l.stackTraces = false) (hx : p.tables.exec = Jvm.exec) (hb : c.code = cL_law) (hml : c.maxLocals = 9) (hown : s.vm.findClass RL = some m.cls) (htg : ∀ w ∈ wB, w.before args s = true) (hF : LF D ct cL ad ad6 s) (hX : va_X b L xs s s.heap) (hbl : b < s.heap.size) (hL : L ≤ 2560) (hi : i + 5 ≤ L) (hC : CS ct ad ad6 ce ce6) (hP : LW D cL ad ad6 ce v ce6 H) (hS : va_S (lA s) s.heap H locs) (hl : lv_has ls 9 (lb b ad ad6 i)) (hf : cells + 1 ≤ room_1.cells ∧ slots + 6 ≤ room_1.slots) (kk : LK p l e room_1 s m args below meth c Q D ct cL ad ad6 b i (cells + 1) (slots + 6)) : W p l e room_1 s m args below meth c H locs cells slots Q (F0 m 1222 ls []) := by
  refine lv_aload_n hx hb dL_law_1222 rfl (lv_at hl 2 rfl) ?_
  refine lv_aload_n hx hb dL_law_1223 rfl (lv_at hl 1 rfl) ?_
  refine lv_iload hx hb dL_law_1224 (lv_at hl 0 rfl) ?_
  refine lv_iconst (v := nI 1) hx hb dL_law_1226 (by decide) ?_
  refine lv_iaddN hx hb dL_law_1227 ?_
  refine ls_ld hx hb hX hbl hS (show i + 1 < L by omega) hL dL_law_1228 ?_
  refine lv_aload_n hx hb dL_law_1229 rfl (lv_at hl 4 rfl) ?_
  obtain ⟨k, ce1, v1, r, ce61, hc1, hc6, hcT, hkv, hC1⟩ := st_count l hlt D ct cL ad ad6 (xs (i + 1)) ce ce6 v hC
  refine lo_S (av := [.ref (ad 0), .int (xs (i + 1)), .ref (ad 198)]) (rest := []) hx hb hml hown htg hF hP hS hl.1 hc1 co_L_160 rfl rfl ⟨Nat.le_of_ble_eq_true rfl, Nat.le_of_ble_eq_true rfl⟩ (Nat.le_of_ble_eq_true rfl) dL_law_1230 ⟨by omega, by omega⟩ (fun H locs hP hS => ?_)
  refine lv_istore (lv' := [(5, .int k), (4, .int (nI i)), (0, .ref b), (1, .ref (ad 0)), (2, .ref (ad6 0)), (3, .ref (ad 198))]) hx hb dL_law_1233 hl (by decide) rfl (fun ls hl => ?_)
  refine lv_aload_n hx hb dL_law_1235 rfl (lv_at hl 4 rfl) ?_
  refine lv_aload_n hx hb dL_law_1236 rfl (lv_at hl 2 rfl) ?_
  refine lv_iload hx hb dL_law_1237 (lv_at hl 1 rfl) ?_
  refine lv_iconst (v := nI 1) hx hb dL_law_1239 (by decide) ?_
  refine lv_iaddN hx hb dL_law_1240 ?_
  refine ls_ld hx hb hX hbl hS (show i + 1 < L by omega) hL dL_law_1241 ?_
  refine lo_M (As := [.int (xs (i + 1))]) (rest := []) hx hb hml hown htg hF hP hS hl.1 hc6 cw_L_162 hC.h6 rfl rfl ⟨Nat.le_of_ble_eq_true rfl, Nat.le_of_ble_eq_true rfl⟩ (Nat.le_of_ble_eq_true rfl) dL_law_1242 ⟨by omega, by omega⟩ (fun H locs hP hS => ?_)
  refine lv_istore (lv' := [(6, .int r), (5, .int k), (4, .int (nI i)), (0, .ref b), (1, .ref (ad 0)), (2, .ref (ad6 0)), (3, .ref (ad 198))]) hx hb dL_law_1245 hl (by decide) rfl (fun ls hl => ?_)
  refine lv_aload_n hx hb dL_law_1247 rfl (lv_at hl 5 rfl) ?_
  refine lo_M (As := []) (rest := []) hx hb hml hown htg hF hP hS hl.1 hcT cw_L_98 hC1.h6 rfl rfl ⟨Nat.le_of_ble_eq_true rfl, Nat.le_of_ble_eq_true rfl⟩ (Nat.le_of_ble_eq_true rfl) dL_law_1248 ⟨by omega, by omega⟩ (fun H locs hP hS => ?_)
  refine lv_iload hx hb dL_law_1251 (lv_at hl 1 rfl) ?_
  refine lv_icmp_eq (tgt := 1258) hx hb dL_law_1253 rfl (fun _ => ?_) (fun h => absurd rfl h)
  refine lv_iload hx hb dL_law_1258 (lv_at hl 1 rfl) ?_
  refine lv_if_ne (tgt := 1275) hx hb dL_law_1260 rfl (fun _ => ?_) (fun hk0 => ?_)
  · refine lv_goto (tgt := 1649) hx hb dL_law_1275 rfl ?_
    exact kk H locs ce1 ce61 _ ls hC1 hP hS (lv_sub hl [2, 3, 4, 5, 6] rfl)
  · refine lv_aload_n hx hb dL_law_1263 rfl (lv_at hl 6 rfl) ?_
    refine lv_iconst (v := 0) hx hb dL_law_1264 rfl ?_
    refine lo_out hx hb hF hP dL_law_1265 ?_
    refine lv_iload hx hb dL_law_1266 (lv_at hl 0 rfl) ?_
    refine lv_i2l (v := r.toInt64) hx hb dL_law_1268 rfl ?_
    refine lw_lcmp_eq hx hb (hkv hk0) dL_law_1269 ?_
    refine lv_if_eq (tgt := 1275) hx hb dL_law_1270 rfl (fun _ => ?_) (fun h => absurd rfl h)
    refine lv_goto (tgt := 1649) hx hb dL_law_1275 rfl ?_
    exact kk H locs ce1 ce61 _ ls hC1 hP hS (lv_sub hl [2, 3, 4, 5, 6] rfl)
set_option maxRecDepth 100000 in
theorem lc_setting (hlt : l.stackTraces = false) (hx : p.tables.exec = Jvm.exec) (hb : c.code = cL_law) (hml : c.maxLocals = 9) (hown : s.vm.findClass RL = some m.cls) (htg : ∀ w ∈ wB, w.before args s = true) (hF : LF D ct cL ad ad6 s) (hX : va_X b L xs s s.heap) (hbl : b < s.heap.size) (hL : L ≤ 2560) (hi : i + 5 ≤ L) (hC : CS ct ad ad6 ce ce6) (hP : LW D cL ad ad6 ce v ce6 H) (hS : va_S (lA s) s.heap H locs) (hl : lv_has ls 9 (lb b ad ad6 i)) (hf : cells + 1 ≤ room_1.cells ∧ slots + 6 ≤ room_1.slots) (kk : LK p l e room_1 s m args below meth c Q D ct cL ad ad6 b i (cells + 1) (slots + 6)) : W p l e room_1 s m args below meth c H locs cells slots Q (F0 m 1278 ls []) := by
  refine lv_aload_n hx hb dL_law_1278 rfl (lv_at hl 2 rfl) ?_
  refine lv_aload_n hx hb dL_law_1279 rfl (lv_at hl 1 rfl) ?_
  refine lv_iload hx hb dL_law_1280 (lv_at hl 0 rfl) ?_
  refine lv_iconst (v := nI 1) hx hb dL_law_1282 (by decide) ?_
  refine lv_iaddN hx hb dL_law_1283 ?_
  refine ls_ld hx hb hX hbl hS (show i + 1 < L by omega) hL dL_law_1284 ?_
  refine lv_aload_n hx hb dL_law_1285 rfl (lv_at hl 4 rfl) ?_
  obtain ⟨k, ce1, v1, r, ce61, hc1, hc6, hcT, hkv, hC1⟩ := st_setting l hlt D ct cL ad ad6 (xs (i + 1)) ce ce6 v hC
  refine lo_S (av := [.ref (ad 0), .int (xs (i + 1)), .ref (ad 198)]) (rest := []) hx hb hml hown htg hF hP hS hl.1 hc1 co_L_163 rfl rfl ⟨Nat.le_of_ble_eq_true rfl, Nat.le_of_ble_eq_true rfl⟩ (Nat.le_of_ble_eq_true rfl) dL_law_1286 ⟨by omega, by omega⟩ (fun H locs hP hS => ?_)
  refine lv_istore (lv' := [(5, .int k), (4, .int (nI i)), (0, .ref b), (1, .ref (ad 0)), (2, .ref (ad6 0)), (3, .ref (ad 198))]) hx hb dL_law_1289 hl (by decide) rfl (fun ls hl => ?_)
  refine lv_aload_n hx hb dL_law_1291 rfl (lv_at hl 4 rfl) ?_
  refine lv_aload_n hx hb dL_law_1292 rfl (lv_at hl 2 rfl) ?_
  refine lv_iload hx hb dL_law_1293 (lv_at hl 1 rfl) ?_
  refine lv_iconst (v := nI 1) hx hb dL_law_1295 (by decide) ?_
  refine lv_iaddN hx hb dL_law_1296 ?_
  refine ls_ld hx hb hX hbl hS (show i + 1 < L by omega) hL dL_law_1297 ?_
  refine lo_M (As := [.int (xs (i + 1))]) (rest := []) hx hb hml hown htg hF hP hS hl.1 hc6 cw_L_165 hC.h6 rfl rfl ⟨Nat.le_of_ble_eq_true rfl, Nat.le_of_ble_eq_true rfl⟩ (Nat.le_of_ble_eq_true rfl) dL_law_1298 ⟨by omega, by omega⟩ (fun H locs hP hS => ?_)
  refine lv_istore (lv' := [(6, .int r), (5, .int k), (4, .int (nI i)), (0, .ref b), (1, .ref (ad 0)), (2, .ref (ad6 0)), (3, .ref (ad 198))]) hx hb dL_law_1301 hl (by decide) rfl (fun ls hl => ?_)
  refine lv_aload_n hx hb dL_law_1303 rfl (lv_at hl 5 rfl) ?_
  refine lo_M (As := []) (rest := []) hx hb hml hown htg hF hP hS hl.1 hcT cw_L_98 hC1.h6 rfl rfl ⟨Nat.le_of_ble_eq_true rfl, Nat.le_of_ble_eq_true rfl⟩ (Nat.le_of_ble_eq_true rfl) dL_law_1304 ⟨by omega, by omega⟩ (fun H locs hP hS => ?_)
  refine lv_iload hx hb dL_law_1307 (lv_at hl 1 rfl) ?_
  refine lv_icmp_eq (tgt := 1314) hx hb dL_law_1309 rfl (fun _ => ?_) (fun h => absurd rfl h)
  refine lv_iload hx hb dL_law_1314 (lv_at hl 1 rfl) ?_
  refine lv_if_ne (tgt := 1331) hx hb dL_law_1316 rfl (fun _ => ?_) (fun hk0 => ?_)
  · refine lv_goto (tgt := 1649) hx hb dL_law_1331 rfl ?_
    exact kk H locs ce1 ce61 _ ls hC1 hP hS (lv_sub hl [2, 3, 4, 5, 6] rfl)
  · refine lv_aload_n hx hb dL_law_1319 rfl (lv_at hl 6 rfl) ?_
    refine lv_iconst (v := 0) hx hb dL_law_1320 rfl ?_
    refine lo_out hx hb hF hP dL_law_1321 ?_
    refine lv_iload hx hb dL_law_1322 (lv_at hl 0 rfl) ?_
    refine lv_i2l (v := r.toInt64) hx hb dL_law_1324 rfl ?_
    refine lw_lcmp_eq hx hb (hkv hk0) dL_law_1325 ?_
    refine lv_if_eq (tgt := 1331) hx hb dL_law_1326 rfl (fun _ => ?_) (fun h => absurd rfl h)
    refine lv_goto (tgt := 1649) hx hb dL_law_1331 rfl ?_
    exact kk H locs ce1 ce61 _ ls hC1 hP hS (lv_sub hl [2, 3, 4, 5, 6] rfl)
set_option maxRecDepth 100000 in
theorem lc_ifPlugged (hlt : l.stackTraces = false) (hx : p.tables.exec = Jvm.exec) (hb : c.code = cL_law) (hml : c.maxLocals = 9) (hown : s.vm.findClass RL = some m.cls) (htg : ∀ w ∈ wB, w.before args s = true) (hF : LF D ct cL ad ad6 s) (hX : va_X b L xs s s.heap) (hbl : b < s.heap.size) (hL : L ≤ 2560) (hi : i + 5 ≤ L) (hC : CS ct ad ad6 ce ce6) (hP : LW D cL ad ad6 ce v ce6 H) (hS : va_S (lA s) s.heap H locs) (hl : lv_has ls 9 (lb b ad ad6 i)) (hf : cells + 1 ≤ room_1.cells ∧ slots + 6 ≤ room_1.slots) (kk : LK p l e room_1 s m args below meth c Q D ct cL ad ad6 b i (cells + 1) (slots + 6)) : W p l e room_1 s m args below meth c H locs cells slots Q (F0 m 1334 ls []) := by
  refine lv_aload_n hx hb dL_law_1334 rfl (lv_at hl 2 rfl) ?_
  refine lv_aload_n hx hb dL_law_1335 rfl (lv_at hl 1 rfl) ?_
  refine lv_iload hx hb dL_law_1336 (lv_at hl 0 rfl) ?_
  refine lv_iconst (v := nI 1) hx hb dL_law_1338 (by decide) ?_
  refine lv_iaddN hx hb dL_law_1339 ?_
  refine ls_ld hx hb hX hbl hS (show i + 1 < L by omega) hL dL_law_1340 ?_
  refine lv_aload_n hx hb dL_law_1341 rfl (lv_at hl 1 rfl) ?_
  refine lv_iload hx hb dL_law_1342 (lv_at hl 0 rfl) ?_
  refine lv_iconst (v := nI 2) hx hb dL_law_1344 (by decide) ?_
  refine lv_iaddN hx hb dL_law_1345 ?_
  refine ls_ld hx hb hX hbl hS (show i + 2 < L by omega) hL dL_law_1346 ?_
  refine lv_aload_n hx hb dL_law_1347 rfl (lv_at hl 1 rfl) ?_
  refine lv_iload hx hb dL_law_1348 (lv_at hl 0 rfl) ?_
  refine lv_iconst (v := nI 3) hx hb dL_law_1350 (by decide) ?_
  refine lv_iaddN hx hb dL_law_1351 ?_
  refine ls_ld hx hb hX hbl hS (show i + 3 < L by omega) hL dL_law_1352 ?_
  refine lv_aload_n hx hb dL_law_1353 rfl (lv_at hl 1 rfl) ?_
  refine lv_iload hx hb dL_law_1354 (lv_at hl 0 rfl) ?_
  refine lv_iconst (v := nI 4) hx hb dL_law_1356 (by decide) ?_
  refine lv_iaddN hx hb dL_law_1357 ?_
  refine ls_ld hx hb hX hbl hS (show i + 4 < L by omega) hL dL_law_1358 ?_
  refine lv_aload_n hx hb dL_law_1359 rfl (lv_at hl 4 rfl) ?_
  obtain ⟨k, ce1, v1, r, ce61, hc1, hc6, hcT, hkv, hC1⟩ := st_ifPlugged l hlt D ct cL ad ad6 (xs (i + 1)) (xs (i + 2)) (xs (i + 3)) (xs (i + 4)) ce ce6 v hC
  refine lo_S (av := [.ref (ad 0), .int (xs (i + 1)), .int (xs (i + 2)), .int (xs (i + 3)), .int (xs (i + 4)), .ref (ad 198)]) (rest := []) hx hb hml hown htg hF hP hS hl.1 hc1 co_L_166 rfl rfl ⟨Nat.le_of_ble_eq_true rfl, Nat.le_of_ble_eq_true rfl⟩ (Nat.le_of_ble_eq_true rfl) dL_law_1360 ⟨by omega, by omega⟩ (fun H locs hP hS => ?_)
  refine lv_istore (lv' := [(5, .int k), (4, .int (nI i)), (0, .ref b), (1, .ref (ad 0)), (2, .ref (ad6 0)), (3, .ref (ad 198))]) hx hb dL_law_1363 hl (by decide) rfl (fun ls hl => ?_)
  refine lv_aload_n hx hb dL_law_1365 rfl (lv_at hl 4 rfl) ?_
  refine lv_aload_n hx hb dL_law_1366 rfl (lv_at hl 2 rfl) ?_
  refine lv_iload hx hb dL_law_1367 (lv_at hl 1 rfl) ?_
  refine lv_iconst (v := nI 1) hx hb dL_law_1369 (by decide) ?_
  refine lv_iaddN hx hb dL_law_1370 ?_
  refine ls_ld hx hb hX hbl hS (show i + 1 < L by omega) hL dL_law_1371 ?_
  refine lv_aload_n hx hb dL_law_1372 rfl (lv_at hl 2 rfl) ?_
  refine lv_iload hx hb dL_law_1373 (lv_at hl 1 rfl) ?_
  refine lv_iconst (v := nI 2) hx hb dL_law_1375 (by decide) ?_
  refine lv_iaddN hx hb dL_law_1376 ?_
  refine ls_ld hx hb hX hbl hS (show i + 2 < L by omega) hL dL_law_1377 ?_
  refine lv_aload_n hx hb dL_law_1378 rfl (lv_at hl 2 rfl) ?_
  refine lv_iload hx hb dL_law_1379 (lv_at hl 1 rfl) ?_
  refine lv_iconst (v := nI 3) hx hb dL_law_1381 (by decide) ?_
  refine lv_iaddN hx hb dL_law_1382 ?_
  refine ls_ld hx hb hX hbl hS (show i + 3 < L by omega) hL dL_law_1383 ?_
  refine lv_aload_n hx hb dL_law_1384 rfl (lv_at hl 2 rfl) ?_
  refine lv_iload hx hb dL_law_1385 (lv_at hl 1 rfl) ?_
  refine lv_iconst (v := nI 4) hx hb dL_law_1387 (by decide) ?_
  refine lv_iaddN hx hb dL_law_1388 ?_
  refine ls_ld hx hb hX hbl hS (show i + 4 < L by omega) hL dL_law_1389 ?_
  refine lo_M (As := [.int (xs (i + 1)), .int (xs (i + 2)), .int (xs (i + 3)), .int (xs (i + 4))]) (rest := []) hx hb hml hown htg hF hP hS hl.1 hc6 cw_L_168 hC.h6 rfl rfl ⟨Nat.le_of_ble_eq_true rfl, Nat.le_of_ble_eq_true rfl⟩ (Nat.le_of_ble_eq_true rfl) dL_law_1390 ⟨by omega, by omega⟩ (fun H locs hP hS => ?_)
  refine lv_istore (lv' := [(6, .int r), (5, .int k), (4, .int (nI i)), (0, .ref b), (1, .ref (ad 0)), (2, .ref (ad6 0)), (3, .ref (ad 198))]) hx hb dL_law_1393 hl (by decide) rfl (fun ls hl => ?_)
  refine lv_aload_n hx hb dL_law_1395 rfl (lv_at hl 5 rfl) ?_
  refine lo_M (As := []) (rest := []) hx hb hml hown htg hF hP hS hl.1 hcT cw_L_98 hC1.h6 rfl rfl ⟨Nat.le_of_ble_eq_true rfl, Nat.le_of_ble_eq_true rfl⟩ (Nat.le_of_ble_eq_true rfl) dL_law_1396 ⟨by omega, by omega⟩ (fun H locs hP hS => ?_)
  refine lv_iload hx hb dL_law_1399 (lv_at hl 1 rfl) ?_
  refine lv_icmp_eq (tgt := 1406) hx hb dL_law_1401 rfl (fun _ => ?_) (fun h => absurd rfl h)
  refine lv_iload hx hb dL_law_1406 (lv_at hl 1 rfl) ?_
  refine lv_if_ne (tgt := 1423) hx hb dL_law_1408 rfl (fun _ => ?_) (fun hk0 => ?_)
  · refine lv_goto (tgt := 1649) hx hb dL_law_1423 rfl ?_
    exact kk H locs ce1 ce61 _ ls hC1 hP hS (lv_sub hl [2, 3, 4, 5, 6] rfl)
  · refine lv_aload_n hx hb dL_law_1411 rfl (lv_at hl 6 rfl) ?_
    refine lv_iconst (v := 0) hx hb dL_law_1412 rfl ?_
    refine lo_out hx hb hF hP dL_law_1413 ?_
    refine lv_iload hx hb dL_law_1414 (lv_at hl 0 rfl) ?_
    refine lv_i2l (v := r.toInt64) hx hb dL_law_1416 rfl ?_
    refine lw_lcmp_eq hx hb (hkv hk0) dL_law_1417 ?_
    refine lv_if_eq (tgt := 1423) hx hb dL_law_1418 rfl (fun _ => ?_) (fun h => absurd rfl h)
    refine lv_goto (tgt := 1649) hx hb dL_law_1423 rfl ?_
    exact kk H locs ce1 ce61 _ ls hC1 hP hS (lv_sub hl [2, 3, 4, 5, 6] rfl)
set_option maxRecDepth 100000 in
theorem lc_tripsIn (hlt : l.stackTraces = false) (hx : p.tables.exec = Jvm.exec) (hb : c.code = cL_law) (hml : c.maxLocals = 9) (hown : s.vm.findClass RL = some m.cls) (htg : ∀ w ∈ wB, w.before args s = true) (hF : LF D ct cL ad ad6 s) (hX : va_X b L xs s s.heap) (hbl : b < s.heap.size) (hL : L ≤ 2560) (hi : i + 5 ≤ L) (hC : CS ct ad ad6 ce ce6) (hP : LW D cL ad ad6 ce v ce6 H) (hS : va_S (lA s) s.heap H locs) (hl : lv_has ls 9 (lb b ad ad6 i)) (hf : cells + 1 ≤ room_1.cells ∧ slots + 6 ≤ room_1.slots) (kk : LK p l e room_1 s m args below meth c Q D ct cL ad ad6 b i (cells + 1) (slots + 6)) : W p l e room_1 s m args below meth c H locs cells slots Q (F0 m 1426 ls []) := by
  refine lv_aload_n hx hb dL_law_1426 rfl (lv_at hl 2 rfl) ?_
  refine lv_aload_n hx hb dL_law_1427 rfl (lv_at hl 1 rfl) ?_
  refine lv_iload hx hb dL_law_1428 (lv_at hl 0 rfl) ?_
  refine lv_iconst (v := nI 1) hx hb dL_law_1430 (by decide) ?_
  refine lv_iaddN hx hb dL_law_1431 ?_
  refine ls_ld hx hb hX hbl hS (show i + 1 < L by omega) hL dL_law_1432 ?_
  refine lv_aload_n hx hb dL_law_1433 rfl (lv_at hl 4 rfl) ?_
  obtain ⟨k, ce1, v1, r, ce61, hc1, hc6, hcT, hkv, hC1⟩ := st_tripsIn l hlt D ct cL ad ad6 (xs (i + 1)) ce ce6 v hC
  refine lo_S (av := [.ref (ad 0), .int (xs (i + 1)), .ref (ad 198)]) (rest := []) hx hb hml hown htg hF hP hS hl.1 hc1 co_L_169 rfl rfl ⟨Nat.le_of_ble_eq_true rfl, Nat.le_of_ble_eq_true rfl⟩ (Nat.le_of_ble_eq_true rfl) dL_law_1434 ⟨by omega, by omega⟩ (fun H locs hP hS => ?_)
  refine lv_istore (lv' := [(5, .int k), (4, .int (nI i)), (0, .ref b), (1, .ref (ad 0)), (2, .ref (ad6 0)), (3, .ref (ad 198))]) hx hb dL_law_1437 hl (by decide) rfl (fun ls hl => ?_)
  refine lv_aload_n hx hb dL_law_1439 rfl (lv_at hl 4 rfl) ?_
  refine lv_aload_n hx hb dL_law_1440 rfl (lv_at hl 2 rfl) ?_
  refine lv_iload hx hb dL_law_1441 (lv_at hl 1 rfl) ?_
  refine lv_iconst (v := nI 1) hx hb dL_law_1443 (by decide) ?_
  refine lv_iaddN hx hb dL_law_1444 ?_
  refine ls_ld hx hb hX hbl hS (show i + 1 < L by omega) hL dL_law_1445 ?_
  refine lo_M (As := [.int (xs (i + 1))]) (rest := []) hx hb hml hown htg hF hP hS hl.1 hc6 cw_L_171 hC.h6 rfl rfl ⟨Nat.le_of_ble_eq_true rfl, Nat.le_of_ble_eq_true rfl⟩ (Nat.le_of_ble_eq_true rfl) dL_law_1446 ⟨by omega, by omega⟩ (fun H locs hP hS => ?_)
  refine lv_istore (lv' := [(6, .int r), (5, .int k), (4, .int (nI i)), (0, .ref b), (1, .ref (ad 0)), (2, .ref (ad6 0)), (3, .ref (ad 198))]) hx hb dL_law_1449 hl (by decide) rfl (fun ls hl => ?_)
  refine lv_aload_n hx hb dL_law_1451 rfl (lv_at hl 5 rfl) ?_
  refine lo_M (As := []) (rest := []) hx hb hml hown htg hF hP hS hl.1 hcT cw_L_98 hC1.h6 rfl rfl ⟨Nat.le_of_ble_eq_true rfl, Nat.le_of_ble_eq_true rfl⟩ (Nat.le_of_ble_eq_true rfl) dL_law_1452 ⟨by omega, by omega⟩ (fun H locs hP hS => ?_)
  refine lv_iload hx hb dL_law_1455 (lv_at hl 1 rfl) ?_
  refine lv_icmp_eq (tgt := 1462) hx hb dL_law_1457 rfl (fun _ => ?_) (fun h => absurd rfl h)
  refine lv_iload hx hb dL_law_1462 (lv_at hl 1 rfl) ?_
  refine lv_if_ne (tgt := 1479) hx hb dL_law_1464 rfl (fun _ => ?_) (fun hk0 => ?_)
  · refine lv_goto (tgt := 1649) hx hb dL_law_1479 rfl ?_
    exact kk H locs ce1 ce61 _ ls hC1 hP hS (lv_sub hl [2, 3, 4, 5, 6] rfl)
  · refine lv_aload_n hx hb dL_law_1467 rfl (lv_at hl 6 rfl) ?_
    refine lv_iconst (v := 0) hx hb dL_law_1468 rfl ?_
    refine lo_out hx hb hF hP dL_law_1469 ?_
    refine lv_iload hx hb dL_law_1470 (lv_at hl 0 rfl) ?_
    refine lv_i2l (v := r.toInt64) hx hb dL_law_1472 rfl ?_
    refine lw_lcmp_eq hx hb (hkv hk0) dL_law_1473 ?_
    refine lv_if_eq (tgt := 1479) hx hb dL_law_1474 rfl (fun _ => ?_) (fun h => absurd rfl h)
    refine lv_goto (tgt := 1649) hx hb dL_law_1479 rfl ?_
    exact kk H locs ce1 ce61 _ ls hC1 hP hS (lv_sub hl [2, 3, 4, 5, 6] rfl)
set_option maxRecDepth 100000 in
theorem lc_bestSocket (hlt : l.stackTraces = false) (hx : p.tables.exec = Jvm.exec) (hb : c.code = cL_law) (hml : c.maxLocals = 9) (hown : s.vm.findClass RL = some m.cls) (htg : ∀ w ∈ wB, w.before args s = true) (hF : LF D ct cL ad ad6 s) (hX : va_X b L xs s s.heap) (hbl : b < s.heap.size) (hL : L ≤ 2560) (hi : i + 5 ≤ L) (hC : CS ct ad ad6 ce ce6) (hP : LW D cL ad ad6 ce v ce6 H) (hS : va_S (lA s) s.heap H locs) (hl : lv_has ls 9 (lb b ad ad6 i)) (hf : cells + 1 ≤ room_1.cells ∧ slots + 6 ≤ room_1.slots) (kk : LK p l e room_1 s m args below meth c Q D ct cL ad ad6 b i (cells + 1) (slots + 6)) : W p l e room_1 s m args below meth c H locs cells slots Q (F0 m 1482 ls []) := by
  refine lv_aload_n hx hb dL_law_1482 rfl (lv_at hl 2 rfl) ?_
  refine lv_aload_n hx hb dL_law_1483 rfl (lv_at hl 1 rfl) ?_
  refine lv_iload hx hb dL_law_1484 (lv_at hl 0 rfl) ?_
  refine lv_iconst (v := nI 1) hx hb dL_law_1486 (by decide) ?_
  refine lv_iaddN hx hb dL_law_1487 ?_
  refine ls_ld hx hb hX hbl hS (show i + 1 < L by omega) hL dL_law_1488 ?_
  refine lv_aload_n hx hb dL_law_1489 rfl (lv_at hl 4 rfl) ?_
  obtain ⟨k, ce1, v1, r, ce61, hc1, hc6, hcT, hkv, hC1⟩ := st_bestSocket l hlt D ct cL ad ad6 (xs (i + 1)) ce ce6 v hC
  refine lo_S (av := [.ref (ad 0), .int (xs (i + 1)), .ref (ad 198)]) (rest := []) hx hb hml hown htg hF hP hS hl.1 hc1 co_L_172 rfl rfl ⟨Nat.le_of_ble_eq_true rfl, Nat.le_of_ble_eq_true rfl⟩ (Nat.le_of_ble_eq_true rfl) dL_law_1490 ⟨by omega, by omega⟩ (fun H locs hP hS => ?_)
  refine lv_istore (lv' := [(5, .int k), (4, .int (nI i)), (0, .ref b), (1, .ref (ad 0)), (2, .ref (ad6 0)), (3, .ref (ad 198))]) hx hb dL_law_1493 hl (by decide) rfl (fun ls hl => ?_)
  refine lv_aload_n hx hb dL_law_1495 rfl (lv_at hl 4 rfl) ?_
  refine lv_aload_n hx hb dL_law_1496 rfl (lv_at hl 2 rfl) ?_
  refine lv_iload hx hb dL_law_1497 (lv_at hl 1 rfl) ?_
  refine lv_iconst (v := nI 1) hx hb dL_law_1499 (by decide) ?_
  refine lv_iaddN hx hb dL_law_1500 ?_
  refine ls_ld hx hb hX hbl hS (show i + 1 < L by omega) hL dL_law_1501 ?_
  refine lo_M (As := [.int (xs (i + 1))]) (rest := []) hx hb hml hown htg hF hP hS hl.1 hc6 cw_L_174 hC.h6 rfl rfl ⟨Nat.le_of_ble_eq_true rfl, Nat.le_of_ble_eq_true rfl⟩ (Nat.le_of_ble_eq_true rfl) dL_law_1502 ⟨by omega, by omega⟩ (fun H locs hP hS => ?_)
  refine lv_istore (lv' := [(6, .int r), (5, .int k), (4, .int (nI i)), (0, .ref b), (1, .ref (ad 0)), (2, .ref (ad6 0)), (3, .ref (ad 198))]) hx hb dL_law_1505 hl (by decide) rfl (fun ls hl => ?_)
  refine lv_aload_n hx hb dL_law_1507 rfl (lv_at hl 5 rfl) ?_
  refine lo_M (As := []) (rest := []) hx hb hml hown htg hF hP hS hl.1 hcT cw_L_98 hC1.h6 rfl rfl ⟨Nat.le_of_ble_eq_true rfl, Nat.le_of_ble_eq_true rfl⟩ (Nat.le_of_ble_eq_true rfl) dL_law_1508 ⟨by omega, by omega⟩ (fun H locs hP hS => ?_)
  refine lv_iload hx hb dL_law_1511 (lv_at hl 1 rfl) ?_
  refine lv_icmp_eq (tgt := 1518) hx hb dL_law_1513 rfl (fun _ => ?_) (fun h => absurd rfl h)
  refine lv_iload hx hb dL_law_1518 (lv_at hl 1 rfl) ?_
  refine lv_if_ne (tgt := 1535) hx hb dL_law_1520 rfl (fun _ => ?_) (fun hk0 => ?_)
  · refine lv_goto (tgt := 1649) hx hb dL_law_1535 rfl ?_
    exact kk H locs ce1 ce61 _ ls hC1 hP hS (lv_sub hl [2, 3, 4, 5, 6] rfl)
  · refine lv_aload_n hx hb dL_law_1523 rfl (lv_at hl 6 rfl) ?_
    refine lv_iconst (v := 0) hx hb dL_law_1524 rfl ?_
    refine lo_out hx hb hF hP dL_law_1525 ?_
    refine lv_iload hx hb dL_law_1526 (lv_at hl 0 rfl) ?_
    refine lv_i2l (v := r.toInt64) hx hb dL_law_1528 rfl ?_
    refine lw_lcmp_eq hx hb (hkv hk0) dL_law_1529 ?_
    refine lv_if_eq (tgt := 1535) hx hb dL_law_1530 rfl (fun _ => ?_) (fun h => absurd rfl h)
    refine lv_goto (tgt := 1649) hx hb dL_law_1535 rfl ?_
    exact kk H locs ce1 ce61 _ ls hC1 hP hS (lv_sub hl [2, 3, 4, 5, 6] rfl)
set_option maxRecDepth 100000 in
theorem lc_leastBound (hlt : l.stackTraces = false) (hx : p.tables.exec = Jvm.exec) (hb : c.code = cL_law) (hml : c.maxLocals = 9) (hown : s.vm.findClass RL = some m.cls) (htg : ∀ w ∈ wB, w.before args s = true) (hF : LF D ct cL ad ad6 s) (hX : va_X b L xs s s.heap) (hbl : b < s.heap.size) (hL : L ≤ 2560) (hi : i + 5 ≤ L) (hC : CS ct ad ad6 ce ce6) (hP : LW D cL ad ad6 ce v ce6 H) (hS : va_S (lA s) s.heap H locs) (hl : lv_has ls 9 (lb b ad ad6 i)) (hf : cells + 1 ≤ room_1.cells ∧ slots + 6 ≤ room_1.slots) (kk : LK p l e room_1 s m args below meth c Q D ct cL ad ad6 b i (cells + 1) (slots + 6)) : W p l e room_1 s m args below meth c H locs cells slots Q (F0 m 1538 ls []) := by
  refine lv_aload_n hx hb dL_law_1538 rfl (lv_at hl 2 rfl) ?_
  refine lv_aload_n hx hb dL_law_1539 rfl (lv_at hl 1 rfl) ?_
  refine lv_iload hx hb dL_law_1540 (lv_at hl 0 rfl) ?_
  refine lv_iconst (v := nI 1) hx hb dL_law_1542 (by decide) ?_
  refine lv_iaddN hx hb dL_law_1543 ?_
  refine ls_ld hx hb hX hbl hS (show i + 1 < L by omega) hL dL_law_1544 ?_
  refine lv_aload_n hx hb dL_law_1545 rfl (lv_at hl 4 rfl) ?_
  obtain ⟨k, ce1, v1, r, ce61, hc1, hc6, hcT, hkv, hC1⟩ := st_leastBound l hlt D ct cL ad ad6 (xs (i + 1)) ce ce6 v hC
  refine lo_S (av := [.ref (ad 0), .int (xs (i + 1)), .ref (ad 198)]) (rest := []) hx hb hml hown htg hF hP hS hl.1 hc1 co_L_175 rfl rfl ⟨Nat.le_of_ble_eq_true rfl, Nat.le_of_ble_eq_true rfl⟩ (Nat.le_of_ble_eq_true rfl) dL_law_1546 ⟨by omega, by omega⟩ (fun H locs hP hS => ?_)
  refine lv_istore (lv' := [(5, .int k), (4, .int (nI i)), (0, .ref b), (1, .ref (ad 0)), (2, .ref (ad6 0)), (3, .ref (ad 198))]) hx hb dL_law_1549 hl (by decide) rfl (fun ls hl => ?_)
  refine lv_aload_n hx hb dL_law_1551 rfl (lv_at hl 4 rfl) ?_
  refine lv_aload_n hx hb dL_law_1552 rfl (lv_at hl 2 rfl) ?_
  refine lv_iload hx hb dL_law_1553 (lv_at hl 1 rfl) ?_
  refine lv_iconst (v := nI 1) hx hb dL_law_1555 (by decide) ?_
  refine lv_iaddN hx hb dL_law_1556 ?_
  refine ls_ld hx hb hX hbl hS (show i + 1 < L by omega) hL dL_law_1557 ?_
  refine lo_M (As := [.int (xs (i + 1))]) (rest := []) hx hb hml hown htg hF hP hS hl.1 hc6 cw_L_177 hC.h6 rfl rfl ⟨Nat.le_of_ble_eq_true rfl, Nat.le_of_ble_eq_true rfl⟩ (Nat.le_of_ble_eq_true rfl) dL_law_1558 ⟨by omega, by omega⟩ (fun H locs hP hS => ?_)
  refine lv_istore (lv' := [(6, .int r), (5, .int k), (4, .int (nI i)), (0, .ref b), (1, .ref (ad 0)), (2, .ref (ad6 0)), (3, .ref (ad 198))]) hx hb dL_law_1561 hl (by decide) rfl (fun ls hl => ?_)
  refine lv_aload_n hx hb dL_law_1563 rfl (lv_at hl 5 rfl) ?_
  refine lo_M (As := []) (rest := []) hx hb hml hown htg hF hP hS hl.1 hcT cw_L_98 hC1.h6 rfl rfl ⟨Nat.le_of_ble_eq_true rfl, Nat.le_of_ble_eq_true rfl⟩ (Nat.le_of_ble_eq_true rfl) dL_law_1564 ⟨by omega, by omega⟩ (fun H locs hP hS => ?_)
  refine lv_iload hx hb dL_law_1567 (lv_at hl 1 rfl) ?_
  refine lv_icmp_eq (tgt := 1574) hx hb dL_law_1569 rfl (fun _ => ?_) (fun h => absurd rfl h)
  refine lv_iload hx hb dL_law_1574 (lv_at hl 1 rfl) ?_
  refine lv_if_ne (tgt := 1591) hx hb dL_law_1576 rfl (fun _ => ?_) (fun hk0 => ?_)
  · refine lv_goto (tgt := 1649) hx hb dL_law_1591 rfl ?_
    exact kk H locs ce1 ce61 _ ls hC1 hP hS (lv_sub hl [2, 3, 4, 5, 6] rfl)
  · refine lv_aload_n hx hb dL_law_1579 rfl (lv_at hl 6 rfl) ?_
    refine lv_iconst (v := 0) hx hb dL_law_1580 rfl ?_
    refine lo_out hx hb hF hP dL_law_1581 ?_
    refine lv_iload hx hb dL_law_1582 (lv_at hl 0 rfl) ?_
    refine lv_i2l (v := r.toInt64) hx hb dL_law_1584 rfl ?_
    refine lw_lcmp_eq hx hb (hkv hk0) dL_law_1585 ?_
    refine lv_if_eq (tgt := 1591) hx hb dL_law_1586 rfl (fun _ => ?_) (fun h => absurd rfl h)
    refine lv_goto (tgt := 1649) hx hb dL_law_1591 rfl ?_
    exact kk H locs ce1 ce61 _ ls hC1 hP hS (lv_sub hl [2, 3, 4, 5, 6] rfl)
set_option maxRecDepth 100000 in
theorem lc_servedShare (hlt : l.stackTraces = false) (hx : p.tables.exec = Jvm.exec) (hb : c.code = cL_law) (hml : c.maxLocals = 9) (hown : s.vm.findClass RL = some m.cls) (htg : ∀ w ∈ wB, w.before args s = true) (hF : LF D ct cL ad ad6 s) (hX : va_X b L xs s s.heap) (hbl : b < s.heap.size) (hL : L ≤ 2560) (hi : i + 5 ≤ L) (hC : CS ct ad ad6 ce ce6) (hP : LW D cL ad ad6 ce v ce6 H) (hS : va_S (lA s) s.heap H locs) (hl : lv_has ls 9 (lb b ad ad6 i)) (hf : cells + 1 ≤ room_1.cells ∧ slots + 6 ≤ room_1.slots) (kk : LK p l e room_1 s m args below meth c Q D ct cL ad ad6 b i (cells + 1) (slots + 6)) : W p l e room_1 s m args below meth c H locs cells slots Q (F0 m 1594 ls []) := by
  refine lv_aload_n hx hb dL_law_1594 rfl (lv_at hl 2 rfl) ?_
  obtain ⟨r, ce1, ce61, hc1, hc6, hC1, hrr⟩ := st_servedShare l D ct ad ad6 ce ce6 hC
  refine lo_X (As := []) (rest := []) hx hb hml hown htg hF hP hS hl.1 hc1 cw_L_178 hC.h5 rfl rfl ⟨Nat.le_of_ble_eq_true rfl, Nat.le_of_ble_eq_true rfl⟩ (Nat.le_of_ble_eq_true rfl) dL_law_1595 ⟨by omega, by omega⟩ (fun H locs hP hS => ?_)
  refine lv_dstore (lv' := [(5, .double r), (4, .int (nI i)), (0, .ref b), (1, .ref (ad 0)), (2, .ref (ad6 0)), (3, .ref (ad 198))]) hx hb dL_law_1598 hl (by decide) rfl (fun ls hl => ?_)
  refine lv_aload_n hx hb dL_law_1600 rfl (lv_at hl 4 rfl) ?_
  refine lo_M (As := []) (rest := []) hx hb hml hown htg hF hP hS hl.1 hc6 cw_L_182 hC.h6 rfl rfl ⟨Nat.le_of_ble_eq_true rfl, Nat.le_of_ble_eq_true rfl⟩ (Nat.le_of_ble_eq_true rfl) dL_law_1601 ⟨by omega, by omega⟩ (fun H locs hP hS => ?_)
  refine lv_dstore (lv' := [(7, .double r), (5, .double r), (4, .int (nI i)), (0, .ref b), (1, .ref (ad 0)), (2, .ref (ad6 0)), (3, .ref (ad 198))]) hx hb dL_law_1604 hl (by decide) rfl (fun ls hl => ?_)
  refine lv_dload hx hb dL_law_1606 (lv_at hl 1 rfl) ?_
  refine lv_dload hx hb dL_law_1608 (lv_at hl 0 rfl) ?_
  refine lv_dcmp hx hb dL_law_1610 ?_
  rw [show Op.cmpValue (FP.dcmp r r) CmpOp.l = 0 by rw [sh_eq hrr]; rfl]
  refine lv_if_eq (tgt := 1632) hx hb dL_law_1611 rfl (fun _ => ?_) (fun h => absurd rfl h)
  refine lv_goto (tgt := 1649) hx hb dL_law_1632 rfl ?_
  exact W_wide (Nat.le_add_right _ _) (Nat.le_add_right _ _) (kk H locs ce1 ce61 _ ls hC1 hP hS (lv_sub hl [2, 3, 4, 5, 6] rfl))
set_option maxRecDepth 100000 in
theorem lc_digest (hlt : l.stackTraces = false) (hx : p.tables.exec = Jvm.exec) (hb : c.code = cL_law) (hml : c.maxLocals = 9) (hown : s.vm.findClass RL = some m.cls) (htg : ∀ w ∈ wB, w.before args s = true) (hF : LF D ct cL ad ad6 s) (hX : va_X b L xs s s.heap) (hbl : b < s.heap.size) (hL : L ≤ 2560) (hi : i + 5 ≤ L) (hC : CS ct ad ad6 ce ce6) (hP : LW D cL ad ad6 ce v ce6 H) (hS : va_S (lA s) s.heap H locs) (hl : lv_has ls 9 (lb b ad ad6 i)) (hf : cells + 1 ≤ room_1.cells ∧ slots + 6 ≤ room_1.slots) (kk : LK p l e room_1 s m args below meth c Q D ct cL ad ad6 b i (cells + 1) (slots + 6)) : W p l e room_1 s m args below meth c H locs cells slots Q (F0 m 1635 ls []) := by
  refine lv_aload_n hx hb dL_law_1635 rfl (lv_at hl 2 rfl) ?_
  obtain ⟨r, ce1, ce61, hc1, hc6, hC1⟩ := st_digest l D ct ad ad6 ce ce6 hC
  refine lo_X (As := []) (rest := []) hx hb hml hown htg hF hP hS hl.1 hc1 cw_L_183 hC.h5 rfl rfl ⟨Nat.le_of_ble_eq_true rfl, Nat.le_of_ble_eq_true rfl⟩ (Nat.le_of_ble_eq_true rfl) dL_law_1636 ⟨by omega, by omega⟩ (fun H locs hP hS => ?_)
  refine lv_aload_n hx hb dL_law_1639 rfl (lv_at hl 3 rfl) ?_
  refine lo_M (As := []) (rest := [.long r]) hx hb hml hown htg hF hP hS hl.1 hc6 cw_L_187 hC.h6 rfl rfl ⟨Nat.le_of_ble_eq_true rfl, Nat.le_of_ble_eq_true rfl⟩ (Nat.le_of_ble_eq_true rfl) dL_law_1640 ⟨by omega, by omega⟩ (fun H locs hP hS => ?_)
  refine lw_lcmp_eq hx hb rfl dL_law_1643 ?_
  refine lv_if_eq (tgt := 1649) hx hb dL_law_1644 rfl (fun _ => ?_) (fun h => absurd rfl h)
  exact W_wide (Nat.le_add_right _ _) (Nat.le_add_right _ _) (kk H locs ce1 ce61 _ ls hC1 hP hS hl)
end CASES
