set_option maxHeartbeats 4000000 in
set_option maxRecDepth 100000 in
theorem law_lend {p : Program} {l : Launch} {e : Env} {s : State} {m : MethodId} {below : List Frame} {meth : Method} {c : Code} {H : Heap} {locs : List Loc} {Q : State → Prop} {G : gG} {w : gW} {b L : Nat} {xs : Nat → Int32} {ls : Array Slot} (C0 : cx p s m #[Value.ref b] meth c yL_law cL_law 4 ret) (hX : va_X b L xs s s.heap) (hbl : b < s.heap.size) (hG : G.2.2 = s.heap.size) (hL : L ≤ 1536) {i : Int} (hi : 0 ≤ i ∧ i + 3 ≤ L) (hl : lv_has ls 4 [(0, .ref b), (1, .ref (ad G 0 0)), (2, .ref (ad G 10 0)), (3, .int (iI i))]) (hW : wo G w s H locs) {b0 b1 b2 b3 : Nat} (hR : Rel w b0 b1 b2 b3)
    (kk : ∀ (w2 : gW) (H2 : Heap) (locs2 : List Loc), (∃ b0 b1 b2 b3 : Nat, Rel w2 b0 b1 b2 b3) → wo G w2 s H2 locs2 → W p l e room_1 s m #[Value.ref b] below meth c H2 locs2 146 16195 Q (F0 m 775 ls [])) : W p l e room_1 s m #[Value.ref b] below meth c H locs 146 16195 Q (F0 m 148 ls []) := by
  have hx := C0.hx
  have hb := C0.hb
  refine lv_aload_n hx hb dL_law_148 rfl (lv_at hl 1 rfl) ?_
  refine lwA C0 hX hbl hG hL hi hl hW (k := 1) ⟨by omega, by omega⟩ dL_law_149 dL_law_150 dL_law_151 dL_law_152 dL_law_153 ?_
  refine lwA C0 hX hbl hG hL hi hl hW (k := 2) ⟨by omega, by omega⟩ dL_law_154 dL_law_155 dL_law_156 dL_law_157 dL_law_158 ?_
  refine k_VL (j := 0) (k0 := 0) (ls := ls) C0 hW (c_X5_lend l G w hR.1 (sx xs (i + 1)) (sx xs (i + 2)) (sx_r _ _) (sx_r _ _)) km_L_13 ki_X5_lend ke_X5_lend kn_X5 kc_X5_lend rfl hdV_X5_lend ⟨Nat.le_of_ble_eq_true rfl, Nat.le_of_ble_eq_true rfl⟩ (show 0 < 11 ∧ 0 < bs 0 from ⟨by decide, by decide⟩) rfl rfl rfl hl.1 rfl (Nat.le_of_ble_eq_true rfl) ⟨Nat.le_of_ble_eq_true rfl, Nat.le_of_ble_eq_true rfl⟩ dL_law_159 (fun z1 w1 H1 locs1 rz1 hp1 hW1 => ?_)
  have e10 := e10_lend hR hp1
  refine lv_aload_n hx hb dL_law_162 rfl (lv_at hl 2 rfl) ?_
  refine lwA C0 hX hbl hG hL hi hl hW1 (k := 1) ⟨by omega, by omega⟩ dL_law_163 dL_law_164 dL_law_165 dL_law_166 dL_law_167 ?_
  refine lwA C0 hX hbl hG hL hi hl hW1 (k := 2) ⟨by omega, by omega⟩ dL_law_168 dL_law_169 dL_law_170 dL_law_171 dL_law_172 ?_
  refine k_VL (j := 10) (k0 := 0) (ls := ls) C0 hW1 (c_X6_lend l G w1 (sx xs (i + 1)) (sx xs (i + 2)) (sx_r _ _) (sx_r _ _) (mO_of (Rel_mO hR) e10)) km_L_17 ki_X6_lend ke_X6_lend kn_X6 kc_X6_lend rfl hdV_X6_lend ⟨Nat.le_of_ble_eq_true rfl, Nat.le_of_ble_eq_true rfl⟩ (show 10 < 11 ∧ 0 < bs 10 from ⟨by decide, by decide⟩) rfl rfl rfl hl.1 rfl (Nat.le_of_ble_eq_true rfl) ⟨Nat.le_of_ble_eq_true rfl, Nat.le_of_ble_eq_true rfl⟩ dL_law_173 (fun z2 w2 H2 locs2 rz2 hp2 hW2 => ?_)
  have f := st_lend hR hp1 hp2
  exact r_icmp_eq (tgt := 775) hx hb rz1 rz2 dL_law_176 (by decide) (fun _ => kk w2 H2 locs2 f.2 hW2) (fun h => absurd (inj_r rz1 rz2 f.1) h)
set_option maxHeartbeats 4000000 in
set_option maxRecDepth 100000 in
theorem law_handOver {p : Program} {l : Launch} {e : Env} {s : State} {m : MethodId} {below : List Frame} {meth : Method} {c : Code} {H : Heap} {locs : List Loc} {Q : State → Prop} {G : gG} {w : gW} {b L : Nat} {xs : Nat → Int32} {ls : Array Slot} (C0 : cx p s m #[Value.ref b] meth c yL_law cL_law 4 ret) (hX : va_X b L xs s s.heap) (hbl : b < s.heap.size) (hG : G.2.2 = s.heap.size) (hL : L ≤ 1536) {i : Int} (hi : 0 ≤ i ∧ i + 3 ≤ L) (hl : lv_has ls 4 [(0, .ref b), (1, .ref (ad G 0 0)), (2, .ref (ad G 10 0)), (3, .int (iI i))]) (hW : wo G w s H locs) {b0 b1 b2 b3 : Nat} (hR : Rel w b0 b1 b2 b3)
    (kk : ∀ (w2 : gW) (H2 : Heap) (locs2 : List Loc), (∃ b0 b1 b2 b3 : Nat, Rel w2 b0 b1 b2 b3) → wo G w2 s H2 locs2 → W p l e room_1 s m #[Value.ref b] below meth c H2 locs2 146 16195 Q (F0 m 775 ls [])) : W p l e room_1 s m #[Value.ref b] below meth c H locs 146 16195 Q (F0 m 181 ls []) := by
  have hx := C0.hx
  have hb := C0.hb
  refine lv_aload_n hx hb dL_law_181 rfl (lv_at hl 1 rfl) ?_
  refine lwA C0 hX hbl hG hL hi hl hW (k := 1) ⟨by omega, by omega⟩ dL_law_182 dL_law_183 dL_law_184 dL_law_185 dL_law_186 ?_
  refine lwA C0 hX hbl hG hL hi hl hW (k := 2) ⟨by omega, by omega⟩ dL_law_187 dL_law_188 dL_law_189 dL_law_190 dL_law_191 ?_
  refine k_VL (j := 0) (k0 := 0) (ls := ls) C0 hW (c_X5_handOver l G w hR.1 (sx xs (i + 1)) (sx xs (i + 2)) (sx_r _ _) (sx_r _ _)) km_L_18 ki_X5_handOver ke_X5_handOver kn_X5 kc_X5_handOver rfl hdV_X5_handOver ⟨Nat.le_of_ble_eq_true rfl, Nat.le_of_ble_eq_true rfl⟩ (show 0 < 11 ∧ 0 < bs 0 from ⟨by decide, by decide⟩) rfl rfl rfl hl.1 rfl (Nat.le_of_ble_eq_true rfl) ⟨Nat.le_of_ble_eq_true rfl, Nat.le_of_ble_eq_true rfl⟩ dL_law_192 (fun z1 w1 H1 locs1 rz1 hp1 hW1 => ?_)
  have e10 := e10_handOver hR hp1
  refine lv_aload_n hx hb dL_law_195 rfl (lv_at hl 2 rfl) ?_
  refine lwA C0 hX hbl hG hL hi hl hW1 (k := 1) ⟨by omega, by omega⟩ dL_law_196 dL_law_197 dL_law_198 dL_law_199 dL_law_200 ?_
  refine lwA C0 hX hbl hG hL hi hl hW1 (k := 2) ⟨by omega, by omega⟩ dL_law_201 dL_law_202 dL_law_203 dL_law_204 dL_law_205 ?_
  refine k_VL (j := 10) (k0 := 0) (ls := ls) C0 hW1 (c_X6_handOver l G w1 (sx xs (i + 1)) (sx xs (i + 2)) (sx_r _ _) (sx_r _ _) (mO_of (Rel_mO hR) e10)) km_L_21 ki_X6_handOver ke_X6_handOver kn_X6 kc_X6_handOver rfl hdV_X6_handOver ⟨Nat.le_of_ble_eq_true rfl, Nat.le_of_ble_eq_true rfl⟩ (show 10 < 11 ∧ 0 < bs 10 from ⟨by decide, by decide⟩) rfl rfl rfl hl.1 rfl (Nat.le_of_ble_eq_true rfl) ⟨Nat.le_of_ble_eq_true rfl, Nat.le_of_ble_eq_true rfl⟩ dL_law_206 (fun z2 w2 H2 locs2 rz2 hp2 hW2 => ?_)
  have f := st_handOver hR hp1 hp2
  exact r_icmp_eq (tgt := 775) hx hb rz1 rz2 dL_law_209 (by decide) (fun _ => kk w2 H2 locs2 f.2 hW2) (fun h => absurd (inj_r rz1 rz2 f.1) h)
set_option maxHeartbeats 4000000 in
set_option maxRecDepth 100000 in
theorem law_setDays {p : Program} {l : Launch} {e : Env} {s : State} {m : MethodId} {below : List Frame} {meth : Method} {c : Code} {H : Heap} {locs : List Loc} {Q : State → Prop} {G : gG} {w : gW} {b L : Nat} {xs : Nat → Int32} {ls : Array Slot} (C0 : cx p s m #[Value.ref b] meth c yL_law cL_law 4 ret) (hX : va_X b L xs s s.heap) (hbl : b < s.heap.size) (hG : G.2.2 = s.heap.size) (hL : L ≤ 1536) {i : Int} (hi : 0 ≤ i ∧ i + 3 ≤ L) (hl : lv_has ls 4 [(0, .ref b), (1, .ref (ad G 0 0)), (2, .ref (ad G 10 0)), (3, .int (iI i))]) (hW : wo G w s H locs) {b0 b1 b2 b3 : Nat} (hR : Rel w b0 b1 b2 b3)
    (kk : ∀ (w2 : gW) (H2 : Heap) (locs2 : List Loc), (∃ b0 b1 b2 b3 : Nat, Rel w2 b0 b1 b2 b3) → wo G w2 s H2 locs2 → W p l e room_1 s m #[Value.ref b] below meth c H2 locs2 146 16195 Q (F0 m 775 ls [])) : W p l e room_1 s m #[Value.ref b] below meth c H locs 146 16195 Q (F0 m 214 ls []) := by
  have hx := C0.hx
  have hb := C0.hb
  refine lv_aload_n hx hb dL_law_214 rfl (lv_at hl 1 rfl) ?_
  refine lwA C0 hX hbl hG hL hi hl hW (k := 1) ⟨by omega, by omega⟩ dL_law_215 dL_law_216 dL_law_217 dL_law_218 dL_law_219 ?_
  refine lwA C0 hX hbl hG hL hi hl hW (k := 2) ⟨by omega, by omega⟩ dL_law_220 dL_law_221 dL_law_222 dL_law_223 dL_law_224 ?_
  refine k_VL (j := 0) (k0 := 0) (ls := ls) C0 hW (c_X5_setDays l G w hR.1 (sx xs (i + 1)) (sx xs (i + 2)) (sx_r _ _) (sx_r _ _)) km_L_22 ki_X5_setDays ke_X5_setDays kn_X5 kc_X5_setDays rfl hdV_X5_setDays ⟨Nat.le_of_ble_eq_true rfl, Nat.le_of_ble_eq_true rfl⟩ (show 0 < 11 ∧ 0 < bs 0 from ⟨by decide, by decide⟩) rfl rfl rfl hl.1 rfl (Nat.le_of_ble_eq_true rfl) ⟨Nat.le_of_ble_eq_true rfl, Nat.le_of_ble_eq_true rfl⟩ dL_law_225 (fun z1 w1 H1 locs1 rz1 hp1 hW1 => ?_)
  have e10 := e10_setDays hR hp1
  refine lv_aload_n hx hb dL_law_228 rfl (lv_at hl 2 rfl) ?_
  refine lwA C0 hX hbl hG hL hi hl hW1 (k := 1) ⟨by omega, by omega⟩ dL_law_229 dL_law_230 dL_law_231 dL_law_232 dL_law_233 ?_
  refine lwA C0 hX hbl hG hL hi hl hW1 (k := 2) ⟨by omega, by omega⟩ dL_law_234 dL_law_235 dL_law_236 dL_law_237 dL_law_238 ?_
  refine k_VL (j := 10) (k0 := 0) (ls := ls) C0 hW1 (c_X6_setDays l G w1 (sx xs (i + 1)) (sx xs (i + 2)) (sx_r _ _) (sx_r _ _) (mO_of (Rel_mO hR) e10)) km_L_25 ki_X6_setDays ke_X6_setDays kn_X6 kc_X6_setDays rfl hdV_X6_setDays ⟨Nat.le_of_ble_eq_true rfl, Nat.le_of_ble_eq_true rfl⟩ (show 10 < 11 ∧ 0 < bs 10 from ⟨by decide, by decide⟩) rfl rfl rfl hl.1 rfl (Nat.le_of_ble_eq_true rfl) ⟨Nat.le_of_ble_eq_true rfl, Nat.le_of_ble_eq_true rfl⟩ dL_law_239 (fun z2 w2 H2 locs2 rz2 hp2 hW2 => ?_)
  have f := st_setDays hR hp1 hp2
  exact r_icmp_eq (tgt := 775) hx hb rz1 rz2 dL_law_242 (by decide) (fun _ => kk w2 H2 locs2 f.2 hW2) (fun h => absurd (inj_r rz1 rz2 f.1) h)
set_option maxHeartbeats 4000000 in
set_option maxRecDepth 100000 in
theorem law_set {p : Program} {l : Launch} {e : Env} {s : State} {m : MethodId} {below : List Frame} {meth : Method} {c : Code} {H : Heap} {locs : List Loc} {Q : State → Prop} {G : gG} {w : gW} {b L : Nat} {xs : Nat → Int32} {ls : Array Slot} (C0 : cx p s m #[Value.ref b] meth c yL_law cL_law 4 ret) (hX : va_X b L xs s s.heap) (hbl : b < s.heap.size) (hG : G.2.2 = s.heap.size) (hL : L ≤ 1536) {i : Int} (hi : 0 ≤ i ∧ i + 3 ≤ L) (hl : lv_has ls 4 [(0, .ref b), (1, .ref (ad G 0 0)), (2, .ref (ad G 10 0)), (3, .int (iI i))]) (hW : wo G w s H locs) {b0 b1 b2 b3 : Nat} (hR : Rel w b0 b1 b2 b3)
    (kk : ∀ (w2 : gW) (H2 : Heap) (locs2 : List Loc), (∃ b0 b1 b2 b3 : Nat, Rel w2 b0 b1 b2 b3) → wo G w2 s H2 locs2 → W p l e room_1 s m #[Value.ref b] below meth c H2 locs2 146 16195 Q (F0 m 775 ls [])) : W p l e room_1 s m #[Value.ref b] below meth c H locs 146 16195 Q (F0 m 247 ls []) := by
  have hx := C0.hx
  have hb := C0.hb
  refine lv_aload_n hx hb dL_law_247 rfl (lv_at hl 1 rfl) ?_
  refine lwA C0 hX hbl hG hL hi hl hW (k := 1) ⟨by omega, by omega⟩ dL_law_248 dL_law_249 dL_law_250 dL_law_251 dL_law_252 ?_
  refine lwA C0 hX hbl hG hL hi hl hW (k := 2) ⟨by omega, by omega⟩ dL_law_253 dL_law_254 dL_law_255 dL_law_256 dL_law_257 ?_
  refine k_VL (j := 0) (k0 := 0) (ls := ls) C0 hW (c_X5_set l G w hR.1 (sx xs (i + 1)) (sx xs (i + 2)) (sx_r _ _) (sx_r _ _)) km_L_26 ki_X5_set ke_X5_set kn_X5 kc_X5_set rfl hdV_X5_set ⟨Nat.le_of_ble_eq_true rfl, Nat.le_of_ble_eq_true rfl⟩ (show 0 < 11 ∧ 0 < bs 0 from ⟨by decide, by decide⟩) rfl rfl rfl hl.1 rfl (Nat.le_of_ble_eq_true rfl) ⟨Nat.le_of_ble_eq_true rfl, Nat.le_of_ble_eq_true rfl⟩ dL_law_258 (fun z1 w1 H1 locs1 rz1 hp1 hW1 => ?_)
  have e10 := e10_set hR hp1
  refine lv_aload_n hx hb dL_law_261 rfl (lv_at hl 2 rfl) ?_
  refine lwA C0 hX hbl hG hL hi hl hW1 (k := 1) ⟨by omega, by omega⟩ dL_law_262 dL_law_263 dL_law_264 dL_law_265 dL_law_266 ?_
  refine lwA C0 hX hbl hG hL hi hl hW1 (k := 2) ⟨by omega, by omega⟩ dL_law_267 dL_law_268 dL_law_269 dL_law_270 dL_law_271 ?_
  refine k_VL (j := 10) (k0 := 0) (ls := ls) C0 hW1 (c_X6_set l G w1 (sx xs (i + 1)) (sx xs (i + 2)) (sx_r _ _) (sx_r _ _) (mO_of (Rel_mO hR) e10)) km_L_29 ki_X6_set ke_X6_set kn_X6 kc_X6_set rfl hdV_X6_set ⟨Nat.le_of_ble_eq_true rfl, Nat.le_of_ble_eq_true rfl⟩ (show 10 < 11 ∧ 0 < bs 10 from ⟨by decide, by decide⟩) rfl rfl rfl hl.1 rfl (Nat.le_of_ble_eq_true rfl) ⟨Nat.le_of_ble_eq_true rfl, Nat.le_of_ble_eq_true rfl⟩ dL_law_272 (fun z2 w2 H2 locs2 rz2 hp2 hW2 => ?_)
  have f := st_set hR hp1 hp2
  exact r_icmp_eq (tgt := 775) hx hb rz1 rz2 dL_law_275 (by decide) (fun _ => kk w2 H2 locs2 f.2 hW2) (fun h => absurd (inj_r rz1 rz2 f.1) h)
set_option maxHeartbeats 4000000 in
set_option maxRecDepth 100000 in
theorem law_cut {p : Program} {l : Launch} {e : Env} {s : State} {m : MethodId} {below : List Frame} {meth : Method} {c : Code} {H : Heap} {locs : List Loc} {Q : State → Prop} {G : gG} {w : gW} {b L : Nat} {xs : Nat → Int32} {ls : Array Slot} (C0 : cx p s m #[Value.ref b] meth c yL_law cL_law 4 ret) (hX : va_X b L xs s s.heap) (hbl : b < s.heap.size) (hG : G.2.2 = s.heap.size) (hL : L ≤ 1536) {i : Int} (hi : 0 ≤ i ∧ i + 3 ≤ L) (hl : lv_has ls 4 [(0, .ref b), (1, .ref (ad G 0 0)), (2, .ref (ad G 10 0)), (3, .int (iI i))]) (hW : wo G w s H locs) {b0 b1 b2 b3 : Nat} (hR : Rel w b0 b1 b2 b3)
    (kk : ∀ (w2 : gW) (H2 : Heap) (locs2 : List Loc), (∃ b0 b1 b2 b3 : Nat, Rel w2 b0 b1 b2 b3) → wo G w2 s H2 locs2 → W p l e room_1 s m #[Value.ref b] below meth c H2 locs2 146 16195 Q (F0 m 775 ls [])) : W p l e room_1 s m #[Value.ref b] below meth c H locs 146 16195 Q (F0 m 280 ls []) := by
  have hx := C0.hx
  have hb := C0.hb
  refine lv_aload_n hx hb dL_law_280 rfl (lv_at hl 1 rfl) ?_
  refine lwA C0 hX hbl hG hL hi hl hW (k := 1) ⟨by omega, by omega⟩ dL_law_281 dL_law_282 dL_law_283 dL_law_284 dL_law_285 ?_
  refine lwA C0 hX hbl hG hL hi hl hW (k := 2) ⟨by omega, by omega⟩ dL_law_286 dL_law_287 dL_law_288 dL_law_289 dL_law_290 ?_
  refine k_VL (j := 0) (k0 := 0) (ls := ls) C0 hW (c_X5_cut l G w hR.1 (sx xs (i + 1)) (sx xs (i + 2)) (sx_r _ _) (sx_r _ _)) km_L_30 ki_X5_cut ke_X5_cut kn_X5 kc_X5_cut rfl hdV_X5_cut ⟨Nat.le_of_ble_eq_true rfl, Nat.le_of_ble_eq_true rfl⟩ (show 0 < 11 ∧ 0 < bs 0 from ⟨by decide, by decide⟩) rfl rfl rfl hl.1 rfl (Nat.le_of_ble_eq_true rfl) ⟨Nat.le_of_ble_eq_true rfl, Nat.le_of_ble_eq_true rfl⟩ dL_law_291 (fun z1 w1 H1 locs1 rz1 hp1 hW1 => ?_)
  have e10 := e10_cut hR hp1
  refine lv_aload_n hx hb dL_law_294 rfl (lv_at hl 2 rfl) ?_
  refine lwA C0 hX hbl hG hL hi hl hW1 (k := 1) ⟨by omega, by omega⟩ dL_law_295 dL_law_296 dL_law_297 dL_law_298 dL_law_299 ?_
  refine lwA C0 hX hbl hG hL hi hl hW1 (k := 2) ⟨by omega, by omega⟩ dL_law_300 dL_law_301 dL_law_302 dL_law_303 dL_law_304 ?_
  refine k_VL (j := 10) (k0 := 0) (ls := ls) C0 hW1 (c_X6_cut l G w1 (sx xs (i + 1)) (sx xs (i + 2)) (sx_r _ _) (sx_r _ _) (mO_of (Rel_mO hR) e10) (fun t0 t => by rw [e10] at t ⊢; exact cut_open hR t t0)) km_L_33 ki_X6_cut ke_X6_cut kn_X6 kc_X6_cut rfl hdV_X6_cut ⟨Nat.le_of_ble_eq_true rfl, Nat.le_of_ble_eq_true rfl⟩ (show 10 < 11 ∧ 0 < bs 10 from ⟨by decide, by decide⟩) rfl rfl rfl hl.1 rfl (Nat.le_of_ble_eq_true rfl) ⟨Nat.le_of_ble_eq_true rfl, Nat.le_of_ble_eq_true rfl⟩ dL_law_305 (fun z2 w2 H2 locs2 rz2 hp2 hW2 => ?_)
  have f := st_cut hR hp1 hp2
  exact r_icmp_eq (tgt := 775) hx hb rz1 rz2 dL_law_308 (by decide) (fun _ => kk w2 H2 locs2 f.2 hW2) (fun h => absurd (inj_r rz1 rz2 f.1) h)
set_option maxHeartbeats 4000000 in
set_option maxRecDepth 100000 in
theorem law_turn {p : Program} {l : Launch} {e : Env} {s : State} {m : MethodId} {below : List Frame} {meth : Method} {c : Code} {H : Heap} {locs : List Loc} {Q : State → Prop} {G : gG} {w : gW} {b L : Nat} {xs : Nat → Int32} {ls : Array Slot} (C0 : cx p s m #[Value.ref b] meth c yL_law cL_law 4 ret) (hX : va_X b L xs s s.heap) (hbl : b < s.heap.size) (hG : G.2.2 = s.heap.size) (hL : L ≤ 1536) {i : Int} (hi : 0 ≤ i ∧ i + 3 ≤ L) (hl : lv_has ls 4 [(0, .ref b), (1, .ref (ad G 0 0)), (2, .ref (ad G 10 0)), (3, .int (iI i))]) (hW : wo G w s H locs) {b0 b1 b2 b3 : Nat} (hR : Rel w b0 b1 b2 b3)
    (kk : ∀ (w2 : gW) (H2 : Heap) (locs2 : List Loc), (∃ b0 b1 b2 b3 : Nat, Rel w2 b0 b1 b2 b3) → wo G w2 s H2 locs2 → W p l e room_1 s m #[Value.ref b] below meth c H2 locs2 146 16195 Q (F0 m 775 ls [])) : W p l e room_1 s m #[Value.ref b] below meth c H locs 146 16195 Q (F0 m 313 ls []) := by
  have hx := C0.hx
  have hb := C0.hb
  refine lv_aload_n hx hb dL_law_313 rfl (lv_at hl 1 rfl) ?_
  refine lwA C0 hX hbl hG hL hi hl hW (k := 1) ⟨by omega, by omega⟩ dL_law_314 dL_law_315 dL_law_316 dL_law_317 dL_law_318 ?_
  refine k_VL (j := 0) (k0 := 0) (ls := ls) C0 hW (c_X5_turn l G w hR.1 (sx xs (i + 1)) (sx_r _ _)) km_L_34 ki_X5_turn ke_X5_turn kn_X5 kc_X5_turn rfl hdV_X5_turn ⟨Nat.le_of_ble_eq_true rfl, Nat.le_of_ble_eq_true rfl⟩ (show 0 < 11 ∧ 0 < bs 0 from ⟨by decide, by decide⟩) rfl rfl rfl hl.1 rfl (Nat.le_of_ble_eq_true rfl) ⟨Nat.le_of_ble_eq_true rfl, Nat.le_of_ble_eq_true rfl⟩ dL_law_319 (fun z1 w1 H1 locs1 rz1 hp1 hW1 => ?_)
  have e10 := e10_turn hR hp1
  refine lv_aload_n hx hb dL_law_322 rfl (lv_at hl 2 rfl) ?_
  refine lwA C0 hX hbl hG hL hi hl hW1 (k := 1) ⟨by omega, by omega⟩ dL_law_323 dL_law_324 dL_law_325 dL_law_326 dL_law_327 ?_
  refine k_VL (j := 10) (k0 := 0) (ls := ls) C0 hW1 (c_X6_turn l G w1 (sx xs (i + 1)) (sx_r _ _) (mO_of (Rel_mO hR) e10)) km_L_38 ki_X6_turn ke_X6_turn kn_X6 kc_X6_turn rfl hdV_X6_turn ⟨Nat.le_of_ble_eq_true rfl, Nat.le_of_ble_eq_true rfl⟩ (show 10 < 11 ∧ 0 < bs 10 from ⟨by decide, by decide⟩) rfl rfl rfl hl.1 rfl (Nat.le_of_ble_eq_true rfl) ⟨Nat.le_of_ble_eq_true rfl, Nat.le_of_ble_eq_true rfl⟩ dL_law_328 (fun z2 w2 H2 locs2 rz2 hp2 hW2 => ?_)
  have f := st_turn hR hp1 hp2
  exact r_icmp_eq (tgt := 775) hx hb rz1 rz2 dL_law_331 (by decide) (fun _ => kk w2 H2 locs2 f.2 hW2) (fun h => absurd (inj_r rz1 rz2 f.1) h)
set_option maxHeartbeats 4000000 in
set_option maxRecDepth 100000 in
theorem law_stack {p : Program} {l : Launch} {e : Env} {s : State} {m : MethodId} {below : List Frame} {meth : Method} {c : Code} {H : Heap} {locs : List Loc} {Q : State → Prop} {G : gG} {w : gW} {b L : Nat} {xs : Nat → Int32} {ls : Array Slot} (C0 : cx p s m #[Value.ref b] meth c yL_law cL_law 4 ret) (hX : va_X b L xs s s.heap) (hbl : b < s.heap.size) (hG : G.2.2 = s.heap.size) (hL : L ≤ 1536) {i : Int} (hi : 0 ≤ i ∧ i + 3 ≤ L) (hl : lv_has ls 4 [(0, .ref b), (1, .ref (ad G 0 0)), (2, .ref (ad G 10 0)), (3, .int (iI i))]) (hW : wo G w s H locs) {b0 b1 b2 b3 : Nat} (hR : Rel w b0 b1 b2 b3)
    (kk : ∀ (w2 : gW) (H2 : Heap) (locs2 : List Loc), (∃ b0 b1 b2 b3 : Nat, Rel w2 b0 b1 b2 b3) → wo G w2 s H2 locs2 → W p l e room_1 s m #[Value.ref b] below meth c H2 locs2 146 16195 Q (F0 m 775 ls [])) : W p l e room_1 s m #[Value.ref b] below meth c H locs 146 16195 Q (F0 m 336 ls []) := by
  have hx := C0.hx
  have hb := C0.hb
  refine lv_aload_n hx hb dL_law_336 rfl (lv_at hl 1 rfl) ?_
  refine lwA C0 hX hbl hG hL hi hl hW (k := 1) ⟨by omega, by omega⟩ dL_law_337 dL_law_338 dL_law_339 dL_law_340 dL_law_341 ?_
  refine k_VL (j := 0) (k0 := 0) (ls := ls) C0 hW (c_X5_stack l G w hR.1 (sx xs (i + 1)) (sx_r _ _)) km_L_39 ki_X5_stack ke_X5_stack kn_X5 kc_X5_stack rfl hdV_X5_stack ⟨Nat.le_of_ble_eq_true rfl, Nat.le_of_ble_eq_true rfl⟩ (show 0 < 11 ∧ 0 < bs 0 from ⟨by decide, by decide⟩) rfl rfl rfl hl.1 rfl (Nat.le_of_ble_eq_true rfl) ⟨Nat.le_of_ble_eq_true rfl, Nat.le_of_ble_eq_true rfl⟩ dL_law_342 (fun z1 w1 H1 locs1 rz1 hp1 hW1 => ?_)
  have e10 := e10_stack hR hp1
  refine lv_aload_n hx hb dL_law_345 rfl (lv_at hl 2 rfl) ?_
  refine lwA C0 hX hbl hG hL hi hl hW1 (k := 1) ⟨by omega, by omega⟩ dL_law_346 dL_law_347 dL_law_348 dL_law_349 dL_law_350 ?_
  refine k_VL (j := 10) (k0 := 0) (ls := ls) C0 hW1 (c_X6_stack l G w1 (sx xs (i + 1)) (sx_r _ _) (mO_of (Rel_mO hR) e10)) km_L_42 ki_X6_stack ke_X6_stack kn_X6 kc_X6_stack rfl hdV_X6_stack ⟨Nat.le_of_ble_eq_true rfl, Nat.le_of_ble_eq_true rfl⟩ (show 10 < 11 ∧ 0 < bs 10 from ⟨by decide, by decide⟩) rfl rfl rfl hl.1 rfl (Nat.le_of_ble_eq_true rfl) ⟨Nat.le_of_ble_eq_true rfl, Nat.le_of_ble_eq_true rfl⟩ dL_law_351 (fun z2 w2 H2 locs2 rz2 hp2 hW2 => ?_)
  have f := st_stack hR hp1 hp2
  exact r_icmp_eq (tgt := 775) hx hb rz1 rz2 dL_law_354 (by decide) (fun _ => kk w2 H2 locs2 f.2 hW2) (fun h => absurd (inj_r rz1 rz2 f.1) h)
set_option maxHeartbeats 4000000 in
set_option maxRecDepth 100000 in
theorem law_pass {p : Program} {l : Launch} {e : Env} {s : State} {m : MethodId} {below : List Frame} {meth : Method} {c : Code} {H : Heap} {locs : List Loc} {Q : State → Prop} {G : gG} {w : gW} {b L : Nat} {xs : Nat → Int32} {ls : Array Slot} (C0 : cx p s m #[Value.ref b] meth c yL_law cL_law 4 ret) (hX : va_X b L xs s s.heap) (hbl : b < s.heap.size) (hG : G.2.2 = s.heap.size) (hL : L ≤ 1536) {i : Int} (hi : 0 ≤ i ∧ i + 3 ≤ L) (hl : lv_has ls 4 [(0, .ref b), (1, .ref (ad G 0 0)), (2, .ref (ad G 10 0)), (3, .int (iI i))]) (hW : wo G w s H locs) {b0 b1 b2 b3 : Nat} (hR : Rel w b0 b1 b2 b3)
    (kk : ∀ (w2 : gW) (H2 : Heap) (locs2 : List Loc), (∃ b0 b1 b2 b3 : Nat, Rel w2 b0 b1 b2 b3) → wo G w2 s H2 locs2 → W p l e room_1 s m #[Value.ref b] below meth c H2 locs2 146 16195 Q (F0 m 775 ls [])) : W p l e room_1 s m #[Value.ref b] below meth c H locs 146 16195 Q (F0 m 359 ls []) := by
  have hx := C0.hx
  have hb := C0.hb
  refine lv_aload_n hx hb dL_law_359 rfl (lv_at hl 1 rfl) ?_
  refine lwA C0 hX hbl hG hL hi hl hW (k := 1) ⟨by omega, by omega⟩ dL_law_360 dL_law_361 dL_law_362 dL_law_363 dL_law_364 ?_
  refine k_VL (j := 0) (k0 := 0) (ls := ls) C0 hW (c_X5_pass l G w hR.1 (sx xs (i + 1)) (sx_r _ _)) km_L_43 ki_X5_pass ke_X5_pass kn_X5 kc_X5_pass rfl hdV_X5_pass ⟨Nat.le_of_ble_eq_true rfl, Nat.le_of_ble_eq_true rfl⟩ (show 0 < 11 ∧ 0 < bs 0 from ⟨by decide, by decide⟩) rfl rfl rfl hl.1 rfl (Nat.le_of_ble_eq_true rfl) ⟨Nat.le_of_ble_eq_true rfl, Nat.le_of_ble_eq_true rfl⟩ dL_law_365 (fun z1 w1 H1 locs1 rz1 hp1 hW1 => ?_)
  have e10 := e10_pass hR hp1
  refine lv_aload_n hx hb dL_law_368 rfl (lv_at hl 2 rfl) ?_
  refine lwA C0 hX hbl hG hL hi hl hW1 (k := 1) ⟨by omega, by omega⟩ dL_law_369 dL_law_370 dL_law_371 dL_law_372 dL_law_373 ?_
  refine k_VL (j := 10) (k0 := 0) (ls := ls) C0 hW1 (c_X6_pass l G w1 (sx xs (i + 1)) (sx_r _ _) (mO_of (Rel_mO hR) e10)) km_L_46 ki_X6_pass ke_X6_pass kn_X6 kc_X6_pass rfl hdV_X6_pass ⟨Nat.le_of_ble_eq_true rfl, Nat.le_of_ble_eq_true rfl⟩ (show 10 < 11 ∧ 0 < bs 10 from ⟨by decide, by decide⟩) rfl rfl rfl hl.1 rfl (Nat.le_of_ble_eq_true rfl) ⟨Nat.le_of_ble_eq_true rfl, Nat.le_of_ble_eq_true rfl⟩ dL_law_374 (fun z2 w2 H2 locs2 rz2 hp2 hW2 => ?_)
  have f := st_pass hR hp1 hp2
  exact r_icmp_eq (tgt := 775) hx hb rz1 rz2 dL_law_377 (by decide) (fun _ => kk w2 H2 locs2 f.2 hW2) (fun h => absurd (inj_r rz1 rz2 f.1) h)
set_option maxHeartbeats 4000000 in
set_option maxRecDepth 100000 in
theorem law_passAll {p : Program} {l : Launch} {e : Env} {s : State} {m : MethodId} {below : List Frame} {meth : Method} {c : Code} {H : Heap} {locs : List Loc} {Q : State → Prop} {G : gG} {w : gW} {b L : Nat} {xs : Nat → Int32} {ls : Array Slot} (C0 : cx p s m #[Value.ref b] meth c yL_law cL_law 4 ret) (hX : va_X b L xs s s.heap) (hbl : b < s.heap.size) (hG : G.2.2 = s.heap.size) (hL : L ≤ 1536) {i : Int} (hi : 0 ≤ i ∧ i + 3 ≤ L) (hl : lv_has ls 4 [(0, .ref b), (1, .ref (ad G 0 0)), (2, .ref (ad G 10 0)), (3, .int (iI i))]) (hW : wo G w s H locs) {b0 b1 b2 b3 : Nat} (hR : Rel w b0 b1 b2 b3)
    (kk : ∀ (w2 : gW) (H2 : Heap) (locs2 : List Loc), (∃ b0 b1 b2 b3 : Nat, Rel w2 b0 b1 b2 b3) → wo G w2 s H2 locs2 → W p l e room_1 s m #[Value.ref b] below meth c H2 locs2 146 16195 Q (F0 m 775 ls [])) : W p l e room_1 s m #[Value.ref b] below meth c H locs 146 16195 Q (F0 m 382 ls []) := by
  have hx := C0.hx
  have hb := C0.hb
  refine lv_aload_n hx hb dL_law_382 rfl (lv_at hl 1 rfl) ?_
  refine k_VL (j := 0) (k0 := 0) (ls := ls) C0 hW (c_X5_passAll l G w hR.1 ) km_L_47 ki_X5_passAll ke_X5_passAll kn_X5 kc_X5_passAll rfl hdV_X5_passAll ⟨Nat.le_of_ble_eq_true rfl, Nat.le_of_ble_eq_true rfl⟩ (show 0 < 11 ∧ 0 < bs 0 from ⟨by decide, by decide⟩) rfl rfl rfl hl.1 rfl (Nat.le_of_ble_eq_true rfl) ⟨Nat.le_of_ble_eq_true rfl, Nat.le_of_ble_eq_true rfl⟩ dL_law_383 (fun z1 w1 H1 locs1 rz1 hp1 hW1 => ?_)
  have e10 := e10_passAll hR hp1
  refine lv_aload_n hx hb dL_law_386 rfl (lv_at hl 2 rfl) ?_
  refine k_VL (j := 10) (k0 := 0) (ls := ls) C0 hW1 (c_X6_passAll l G w1  (mO_of (Rel_mO hR) e10)) km_L_51 ki_X6_passAll ke_X6_passAll kn_X6 kc_X6_passAll rfl hdV_X6_passAll ⟨Nat.le_of_ble_eq_true rfl, Nat.le_of_ble_eq_true rfl⟩ (show 10 < 11 ∧ 0 < bs 10 from ⟨by decide, by decide⟩) rfl rfl rfl hl.1 rfl (Nat.le_of_ble_eq_true rfl) ⟨Nat.le_of_ble_eq_true rfl, Nat.le_of_ble_eq_true rfl⟩ dL_law_387 (fun z2 w2 H2 locs2 rz2 hp2 hW2 => ?_)
  have f := st_passAll hR hp1 hp2
  exact r_icmp_eq (tgt := 775) hx hb rz1 rz2 dL_law_390 (by decide) (fun _ => kk w2 H2 locs2 f.2 hW2) (fun h => absurd (inj_r rz1 rz2 f.1) h)
