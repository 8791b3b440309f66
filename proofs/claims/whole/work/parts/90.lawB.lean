set_option maxHeartbeats 4000000 in
set_option maxRecDepth 100000 in
theorem law_settle {p : Program} {l : Launch} {e : Env} {s : State} {m : MethodId} {below : List Frame} {meth : Method} {c : Code} {H : Heap} {locs : List Loc} {Q : State → Prop} {G : gG} {w : gW} {b L : Nat} {xs : Nat → Int32} {ls : Array Slot} (C0 : cx p s m #[Value.ref b] meth c yL_law cL_law 4 ret) (hX : va_X b L xs s s.heap) (hbl : b < s.heap.size) (hG : G.2.2 = s.heap.size) (hL : L ≤ 1536) {i : Int} (hi : 0 ≤ i ∧ i + 3 ≤ L) (hl : lv_has ls 4 [(0, .ref b), (1, .ref (ad G 0 0)), (2, .ref (ad G 10 0)), (3, .int (iI i))]) (hW : wo G w s H locs) {b0 b1 b2 b3 : Nat} (hR : Rel w b0 b1 b2 b3)
    (kk : ∀ (w2 : gW) (H2 : Heap) (locs2 : List Loc), (∃ b0 b1 b2 b3 : Nat, Rel w2 b0 b1 b2 b3) → wo G w2 s H2 locs2 → W p l e room_1 s m #[Value.ref b] below meth c H2 locs2 146 16195 Q (F0 m 775 ls [])) : W p l e room_1 s m #[Value.ref b] below meth c H locs 146 16195 Q (F0 m 395 ls []) := by
  have hx := C0.hx
  have hb := C0.hb
  refine lv_aload_n hx hb dL_law_395 rfl (lv_at hl 1 rfl) ?_
  refine k_VL (j := 0) (k0 := 0) (ls := ls) C0 hW (c_X5_settle l G w hR.1 ) km_L_52 ki_X5_settle ke_X5_settle kn_X5 kc_X5_settle rfl hdV_X5_settle ⟨Nat.le_of_ble_eq_true rfl, Nat.le_of_ble_eq_true rfl⟩ (show 0 < 11 ∧ 0 < bs 0 from ⟨by decide, by decide⟩) rfl rfl rfl hl.1 rfl (Nat.le_of_ble_eq_true rfl) ⟨Nat.le_of_ble_eq_true rfl, Nat.le_of_ble_eq_true rfl⟩ dL_law_396 (fun z1 w1 H1 locs1 rz1 hp1 hW1 => ?_)
  have e10 := e10_settle hR hp1
  refine lv_aload_n hx hb dL_law_399 rfl (lv_at hl 2 rfl) ?_
  refine k_VL (j := 10) (k0 := 0) (ls := ls) C0 hW1 (c_X6_settle l G w1  (mO_of (Rel_mO hR) e10)) km_L_55 ki_X6_settle ke_X6_settle kn_X6 kc_X6_settle rfl hdV_X6_settle ⟨Nat.le_of_ble_eq_true rfl, Nat.le_of_ble_eq_true rfl⟩ (show 10 < 11 ∧ 0 < bs 10 from ⟨by decide, by decide⟩) rfl rfl rfl hl.1 rfl (Nat.le_of_ble_eq_true rfl) ⟨Nat.le_of_ble_eq_true rfl, Nat.le_of_ble_eq_true rfl⟩ dL_law_400 (fun z2 w2 H2 locs2 rz2 hp2 hW2 => ?_)
  have f := st_settle hR hp1 hp2
  exact r_icmp_eq (tgt := 775) hx hb rz1 rz2 dL_law_403 (by decide) (fun _ => kk w2 H2 locs2 f.2 hW2) (fun h => absurd (inj_r rz1 rz2 f.1) h)
set_option maxHeartbeats 4000000 in
set_option maxRecDepth 100000 in
theorem law_endYear {p : Program} {l : Launch} {e : Env} {s : State} {m : MethodId} {below : List Frame} {meth : Method} {c : Code} {H : Heap} {locs : List Loc} {Q : State → Prop} {G : gG} {w : gW} {b L : Nat} {xs : Nat → Int32} {ls : Array Slot} (C0 : cx p s m #[Value.ref b] meth c yL_law cL_law 4 ret) (hX : va_X b L xs s s.heap) (hbl : b < s.heap.size) (hG : G.2.2 = s.heap.size) (hL : L ≤ 1536) {i : Int} (hi : 0 ≤ i ∧ i + 3 ≤ L) (hl : lv_has ls 4 [(0, .ref b), (1, .ref (ad G 0 0)), (2, .ref (ad G 10 0)), (3, .int (iI i))]) (hW : wo G w s H locs) {b0 b1 b2 b3 : Nat} (hR : Rel w b0 b1 b2 b3)
    (kk : ∀ (w2 : gW) (H2 : Heap) (locs2 : List Loc), (∃ b0 b1 b2 b3 : Nat, Rel w2 b0 b1 b2 b3) → wo G w2 s H2 locs2 → W p l e room_1 s m #[Value.ref b] below meth c H2 locs2 146 16195 Q (F0 m 775 ls [])) : W p l e room_1 s m #[Value.ref b] below meth c H locs 146 16195 Q (F0 m 408 ls []) := by
  have hx := C0.hx
  have hb := C0.hb
  refine lv_aload_n hx hb dL_law_408 rfl (lv_at hl 1 rfl) ?_
  refine k_VL (j := 0) (k0 := 0) (ls := ls) C0 hW (c_X5_endYear l G w hR.1 ) km_L_56 ki_X5_endYear ke_X5_endYear kn_X5 kc_X5_endYear rfl hdV_X5_endYear ⟨Nat.le_of_ble_eq_true rfl, Nat.le_of_ble_eq_true rfl⟩ (show 0 < 11 ∧ 0 < bs 0 from ⟨by decide, by decide⟩) rfl rfl rfl hl.1 rfl (Nat.le_of_ble_eq_true rfl) ⟨Nat.le_of_ble_eq_true rfl, Nat.le_of_ble_eq_true rfl⟩ dL_law_409 (fun z1 w1 H1 locs1 rz1 hp1 hW1 => ?_)
  have e10 := e10_endYear hR hp1
  refine lv_aload_n hx hb dL_law_412 rfl (lv_at hl 2 rfl) ?_
  refine k_VL (j := 10) (k0 := 0) (ls := ls) C0 hW1 (c_X6_endYear l G w1  (mO_of (Rel_mO hR) e10)) km_L_59 ki_X6_endYear ke_X6_endYear kn_X6 kc_X6_endYear rfl hdV_X6_endYear ⟨Nat.le_of_ble_eq_true rfl, Nat.le_of_ble_eq_true rfl⟩ (show 10 < 11 ∧ 0 < bs 10 from ⟨by decide, by decide⟩) rfl rfl rfl hl.1 rfl (Nat.le_of_ble_eq_true rfl) ⟨Nat.le_of_ble_eq_true rfl, Nat.le_of_ble_eq_true rfl⟩ dL_law_413 (fun z2 w2 H2 locs2 rz2 hp2 hW2 => ?_)
  have f := st_endYear hR (wf_yr hR.2.1.1) hp1 hp2
  exact r_icmp_eq (tgt := 775) hx hb rz1 rz2 dL_law_416 (by decide) (fun _ => kk w2 H2 locs2 f.2 hW2) (fun h => absurd (inj_r rz1 rz2 f.1) h)
set_option maxHeartbeats 4000000 in
set_option maxRecDepth 100000 in
theorem law_type {p : Program} {l : Launch} {e : Env} {s : State} {m : MethodId} {below : List Frame} {meth : Method} {c : Code} {H : Heap} {locs : List Loc} {Q : State → Prop} {G : gG} {w : gW} {b L : Nat} {xs : Nat → Int32} {ls : Array Slot} (C0 : cx p s m #[Value.ref b] meth c yL_law cL_law 4 ret) (hX : va_X b L xs s s.heap) (hbl : b < s.heap.size) (hG : G.2.2 = s.heap.size) (hL : L ≤ 1536) {i : Int} (hi : 0 ≤ i ∧ i + 3 ≤ L) (hl : lv_has ls 4 [(0, .ref b), (1, .ref (ad G 0 0)), (2, .ref (ad G 10 0)), (3, .int (iI i))]) (hW : wo G w s H locs) {b0 b1 b2 b3 : Nat} (hR : Rel w b0 b1 b2 b3)
    (kk : ∀ (w2 : gW) (H2 : Heap) (locs2 : List Loc), (∃ b0 b1 b2 b3 : Nat, Rel w2 b0 b1 b2 b3) → wo G w2 s H2 locs2 → W p l e room_1 s m #[Value.ref b] below meth c H2 locs2 146 16195 Q (F0 m 775 ls [])) : W p l e room_1 s m #[Value.ref b] below meth c H locs 146 16195 Q (F0 m 421 ls []) := by
  have hx := C0.hx
  have hb := C0.hb
  refine lv_aload_n hx hb dL_law_421 rfl (lv_at hl 1 rfl) ?_
  refine lwA C0 hX hbl hG hL hi hl hW (k := 1) ⟨by omega, by omega⟩ dL_law_422 dL_law_423 dL_law_424 dL_law_425 dL_law_426 ?_
  refine lv_i2c hx hb dL_law_427 rfl ?_
  rw [show ((iI (sx xs (i + 1))).toUInt32 % 65536).toInt32 = iI (chv (sx xs (i + 1))) from (iI_o _).symm]
  refine k_VL (j := 0) (k0 := 0) (ls := ls) C0 hW (c_X5_type l G w hR.1 (chv (sx xs (i + 1))) (chv_r _) (chv_n _)) km_L_60 ki_X5_type ke_X5_type kn_X5 kc_X5_type rfl hdV_X5_type ⟨Nat.le_of_ble_eq_true rfl, Nat.le_of_ble_eq_true rfl⟩ (show 0 < 11 ∧ 0 < bs 0 from ⟨by decide, by decide⟩) rfl rfl rfl hl.1 rfl (Nat.le_of_ble_eq_true rfl) ⟨Nat.le_of_ble_eq_true rfl, Nat.le_of_ble_eq_true rfl⟩ dL_law_428 (fun z1 w1 H1 locs1 rz1 hp1 hW1 => ?_)
  have e10 := e10_type hR hp1
  refine lv_aload_n hx hb dL_law_431 rfl (lv_at hl 2 rfl) ?_
  refine lwA C0 hX hbl hG hL hi hl hW1 (k := 1) ⟨by omega, by omega⟩ dL_law_432 dL_law_433 dL_law_434 dL_law_435 dL_law_436 ?_
  refine lv_i2c hx hb dL_law_437 rfl ?_
  rw [show ((iI (sx xs (i + 1))).toUInt32 % 65536).toInt32 = iI (chv (sx xs (i + 1))) from (iI_o _).symm]
  refine k_VL (j := 10) (k0 := 0) (ls := ls) C0 hW1 (c_X6_type l G w1 (chv (sx xs (i + 1))) (chv_r _) (mO_of (Rel_mO hR) e10)) km_L_64 ki_X6_type ke_X6_type kn_X6 kc_X6_type rfl hdV_X6_type ⟨Nat.le_of_ble_eq_true rfl, Nat.le_of_ble_eq_true rfl⟩ (show 10 < 11 ∧ 0 < bs 10 from ⟨by decide, by decide⟩) rfl rfl rfl hl.1 rfl (Nat.le_of_ble_eq_true rfl) ⟨Nat.le_of_ble_eq_true rfl, Nat.le_of_ble_eq_true rfl⟩ dL_law_438 (fun z2 w2 H2 locs2 rz2 hp2 hW2 => ?_)
  have f := st_type2 hR hp1 hp2
  exact r_icmp_eq (tgt := 775) hx hb rz1 rz2 dL_law_441 (by decide) (fun _ => kk w2 H2 locs2 f.2 hW2) (fun h => absurd (inj_r rz1 rz2 f.1) h)
set_option maxHeartbeats 4000000 in
set_option maxRecDepth 100000 in
theorem law_clearText {p : Program} {l : Launch} {e : Env} {s : State} {m : MethodId} {below : List Frame} {meth : Method} {c : Code} {H : Heap} {locs : List Loc} {Q : State → Prop} {G : gG} {w : gW} {b L : Nat} {xs : Nat → Int32} {ls : Array Slot} (C0 : cx p s m #[Value.ref b] meth c yL_law cL_law 4 ret) (hX : va_X b L xs s s.heap) (hbl : b < s.heap.size) (hG : G.2.2 = s.heap.size) (hL : L ≤ 1536) {i : Int} (hi : 0 ≤ i ∧ i + 3 ≤ L) (hl : lv_has ls 4 [(0, .ref b), (1, .ref (ad G 0 0)), (2, .ref (ad G 10 0)), (3, .int (iI i))]) (hW : wo G w s H locs) {b0 b1 b2 b3 : Nat} (hR : Rel w b0 b1 b2 b3)
    (kk : ∀ (w2 : gW) (H2 : Heap) (locs2 : List Loc), (∃ b0 b1 b2 b3 : Nat, Rel w2 b0 b1 b2 b3) → wo G w2 s H2 locs2 → W p l e room_1 s m #[Value.ref b] below meth c H2 locs2 146 16195 Q (F0 m 775 ls [])) : W p l e room_1 s m #[Value.ref b] below meth c H locs 146 16195 Q (F0 m 446 ls []) := by
  have hx := C0.hx
  have hb := C0.hb
  refine lv_aload_n hx hb dL_law_446 rfl (lv_at hl 1 rfl) ?_
  refine k_VL (j := 0) (k0 := 0) (ls := ls) C0 hW (c_X5_clearText l G w hR.1 ) km_L_65 ki_X5_clearText ke_X5_clearText kn_X5 kc_X5_clearText rfl hdV_X5_clearText ⟨Nat.le_of_ble_eq_true rfl, Nat.le_of_ble_eq_true rfl⟩ (show 0 < 11 ∧ 0 < bs 0 from ⟨by decide, by decide⟩) rfl rfl rfl hl.1 rfl (Nat.le_of_ble_eq_true rfl) ⟨Nat.le_of_ble_eq_true rfl, Nat.le_of_ble_eq_true rfl⟩ dL_law_447 (fun z1 w1 H1 locs1 rz1 hp1 hW1 => ?_)
  have e10 := e10_clearText hR hp1
  refine lv_aload_n hx hb dL_law_450 rfl (lv_at hl 2 rfl) ?_
  refine k_VL (j := 10) (k0 := 0) (ls := ls) C0 hW1 (c_X6_clearText l G w1  (mO_of (Rel_mO hR) e10)) km_L_68 ki_X6_clearText ke_X6_clearText kn_X6 kc_X6_clearText rfl hdV_X6_clearText ⟨Nat.le_of_ble_eq_true rfl, Nat.le_of_ble_eq_true rfl⟩ (show 10 < 11 ∧ 0 < bs 10 from ⟨by decide, by decide⟩) rfl rfl rfl hl.1 rfl (Nat.le_of_ble_eq_true rfl) ⟨Nat.le_of_ble_eq_true rfl, Nat.le_of_ble_eq_true rfl⟩ dL_law_451 (fun z2 w2 H2 locs2 rz2 hp2 hW2 => ?_)
  have f := st_clearText hR hp1 hp2
  exact r_icmp_eq (tgt := 775) hx hb rz1 rz2 dL_law_454 (by decide) (fun _ => kk w2 H2 locs2 f.2 hW2) (fun h => absurd (inj_r rz1 rz2 f.1) h)
set_option maxHeartbeats 4000000 in
set_option maxRecDepth 100000 in
theorem law_undo {p : Program} {l : Launch} {e : Env} {s : State} {m : MethodId} {below : List Frame} {meth : Method} {c : Code} {H : Heap} {locs : List Loc} {Q : State → Prop} {G : gG} {w : gW} {b L : Nat} {xs : Nat → Int32} {ls : Array Slot} (C0 : cx p s m #[Value.ref b] meth c yL_law cL_law 4 ret) (hX : va_X b L xs s s.heap) (hbl : b < s.heap.size) (hG : G.2.2 = s.heap.size) (hL : L ≤ 1536) {i : Int} (hi : 0 ≤ i ∧ i + 3 ≤ L) (hl : lv_has ls 4 [(0, .ref b), (1, .ref (ad G 0 0)), (2, .ref (ad G 10 0)), (3, .int (iI i))]) (hW : wo G w s H locs) {b0 b1 b2 b3 : Nat} (hR : Rel w b0 b1 b2 b3)
    (kk : ∀ (w2 : gW) (H2 : Heap) (locs2 : List Loc), (∃ b0 b1 b2 b3 : Nat, Rel w2 b0 b1 b2 b3) → wo G w2 s H2 locs2 → W p l e room_1 s m #[Value.ref b] below meth c H2 locs2 146 16195 Q (F0 m 775 ls [])) : W p l e room_1 s m #[Value.ref b] below meth c H locs 146 16195 Q (F0 m 459 ls []) := by
  have hx := C0.hx
  have hb := C0.hb
  refine lv_aload_n hx hb dL_law_459 rfl (lv_at hl 1 rfl) ?_
  refine k_VL (j := 0) (k0 := 0) (ls := ls) C0 hW (c_X5_undo l G w hR.1 ) km_L_69 ki_X5_undo ke_X5_undo kn_X5 kc_X5_undo rfl hdV_X5_undo ⟨Nat.le_of_ble_eq_true rfl, Nat.le_of_ble_eq_true rfl⟩ (show 0 < 11 ∧ 0 < bs 0 from ⟨by decide, by decide⟩) rfl rfl rfl hl.1 rfl (Nat.le_of_ble_eq_true rfl) ⟨Nat.le_of_ble_eq_true rfl, Nat.le_of_ble_eq_true rfl⟩ dL_law_460 (fun z1 w1 H1 locs1 rz1 hp1 hW1 => ?_)
  have e10 := e10_undo hR hp1
  refine lv_aload_n hx hb dL_law_463 rfl (lv_at hl 2 rfl) ?_
  refine k_VL (j := 10) (k0 := 0) (ls := ls) C0 hW1 (c_X6_undo l G w1  (mO_of (Rel_mO hR) e10)) km_L_72 ki_X6_undo ke_X6_undo kn_X6 kc_X6_undo rfl hdV_X6_undo ⟨Nat.le_of_ble_eq_true rfl, Nat.le_of_ble_eq_true rfl⟩ (show 10 < 11 ∧ 0 < bs 10 from ⟨by decide, by decide⟩) rfl rfl rfl hl.1 rfl (Nat.le_of_ble_eq_true rfl) ⟨Nat.le_of_ble_eq_true rfl, Nat.le_of_ble_eq_true rfl⟩ dL_law_464 (fun z2 w2 H2 locs2 rz2 hp2 hW2 => ?_)
  have f := st_undo hR hp1 hp2
  exact r_icmp_eq (tgt := 775) hx hb rz1 rz2 dL_law_467 (by decide) (fun _ => kk w2 H2 locs2 f.2 hW2) (fun h => absurd (inj_r rz1 rz2 f.1) h)
set_option maxHeartbeats 4000000 in
set_option maxRecDepth 100000 in
theorem law_keep {p : Program} {l : Launch} {e : Env} {s : State} {m : MethodId} {below : List Frame} {meth : Method} {c : Code} {H : Heap} {locs : List Loc} {Q : State → Prop} {G : gG} {w : gW} {b L : Nat} {xs : Nat → Int32} {ls : Array Slot} (C0 : cx p s m #[Value.ref b] meth c yL_law cL_law 4 ret) (hX : va_X b L xs s s.heap) (hbl : b < s.heap.size) (hG : G.2.2 = s.heap.size) (hL : L ≤ 1536) {i : Int} (hi : 0 ≤ i ∧ i + 3 ≤ L) (hl : lv_has ls 4 [(0, .ref b), (1, .ref (ad G 0 0)), (2, .ref (ad G 10 0)), (3, .int (iI i))]) (hW : wo G w s H locs) {b0 b1 b2 b3 : Nat} (hR : Rel w b0 b1 b2 b3)
    (kk : ∀ (w2 : gW) (H2 : Heap) (locs2 : List Loc), (∃ b0 b1 b2 b3 : Nat, Rel w2 b0 b1 b2 b3) → wo G w2 s H2 locs2 → W p l e room_1 s m #[Value.ref b] below meth c H2 locs2 146 16195 Q (F0 m 775 ls [])) : W p l e room_1 s m #[Value.ref b] below meth c H locs 146 16195 Q (F0 m 472 ls []) := by
  have hx := C0.hx
  have hb := C0.hb
  refine lv_aload_n hx hb dL_law_472 rfl (lv_at hl 1 rfl) ?_
  refine k_VL (j := 0) (k0 := 0) (ls := ls) C0 hW (c_X5_keep l G w hR.1 ) km_L_73 ki_X5_keep ke_X5_keep kn_X5 kc_X5_keep rfl hdV_X5_keep ⟨Nat.le_of_ble_eq_true rfl, Nat.le_of_ble_eq_true rfl⟩ (show 0 < 11 ∧ 0 < bs 0 from ⟨by decide, by decide⟩) rfl rfl rfl hl.1 rfl (Nat.le_of_ble_eq_true rfl) ⟨Nat.le_of_ble_eq_true rfl, Nat.le_of_ble_eq_true rfl⟩ dL_law_473 (fun z1 w1 H1 locs1 rz1 hp1 hW1 => ?_)
  have e10 := e10_keep hR hp1
  refine lv_aload_n hx hb dL_law_476 rfl (lv_at hl 2 rfl) ?_
  refine k_VL (j := 10) (k0 := 0) (ls := ls) C0 hW1 (c_X6_keep l G w1  (mO_of (Rel_mO hR) e10)) km_L_76 ki_X6_keep ke_X6_keep kn_X6 kc_X6_keep rfl hdV_X6_keep ⟨Nat.le_of_ble_eq_true rfl, Nat.le_of_ble_eq_true rfl⟩ (show 10 < 11 ∧ 0 < bs 10 from ⟨by decide, by decide⟩) rfl rfl rfl hl.1 rfl (Nat.le_of_ble_eq_true rfl) ⟨Nat.le_of_ble_eq_true rfl, Nat.le_of_ble_eq_true rfl⟩ dL_law_477 (fun z2 w2 H2 locs2 rz2 hp2 hW2 => ?_)
  have f := st_keep hR hp1 hp2
  exact r_icmp_eq (tgt := 775) hx hb rz1 rz2 dL_law_480 (by decide) (fun _ => kk w2 H2 locs2 f.2 hW2) (fun h => absurd (inj_r rz1 rz2 f.1) h)
set_option maxHeartbeats 4000000 in
set_option maxRecDepth 100000 in
theorem law_restore {p : Program} {l : Launch} {e : Env} {s : State} {m : MethodId} {below : List Frame} {meth : Method} {c : Code} {H : Heap} {locs : List Loc} {Q : State → Prop} {G : gG} {w : gW} {b L : Nat} {xs : Nat → Int32} {ls : Array Slot} (C0 : cx p s m #[Value.ref b] meth c yL_law cL_law 4 ret) (hX : va_X b L xs s s.heap) (hbl : b < s.heap.size) (hG : G.2.2 = s.heap.size) (hL : L ≤ 1536) {i : Int} (hi : 0 ≤ i ∧ i + 3 ≤ L) (hl : lv_has ls 4 [(0, .ref b), (1, .ref (ad G 0 0)), (2, .ref (ad G 10 0)), (3, .int (iI i))]) (hW : wo G w s H locs) {b0 b1 b2 b3 : Nat} (hR : Rel w b0 b1 b2 b3)
    (kk : ∀ (w2 : gW) (H2 : Heap) (locs2 : List Loc), (∃ b0 b1 b2 b3 : Nat, Rel w2 b0 b1 b2 b3) → wo G w2 s H2 locs2 → W p l e room_1 s m #[Value.ref b] below meth c H2 locs2 146 16195 Q (F0 m 775 ls [])) : W p l e room_1 s m #[Value.ref b] below meth c H locs 146 16195 Q (F0 m 485 ls []) := by
  have hx := C0.hx
  have hb := C0.hb
  refine lv_aload_n hx hb dL_law_485 rfl (lv_at hl 1 rfl) ?_
  refine k_VL (j := 0) (k0 := 0) (ls := ls) C0 hW (c_X5_restore l G w hR.1 ) km_L_77 ki_X5_restore ke_X5_restore kn_X5 kc_X5_restore rfl hdV_X5_restore ⟨Nat.le_of_ble_eq_true rfl, Nat.le_of_ble_eq_true rfl⟩ (show 0 < 11 ∧ 0 < bs 0 from ⟨by decide, by decide⟩) rfl rfl rfl hl.1 rfl (Nat.le_of_ble_eq_true rfl) ⟨Nat.le_of_ble_eq_true rfl, Nat.le_of_ble_eq_true rfl⟩ dL_law_486 (fun z1 w1 H1 locs1 rz1 hp1 hW1 => ?_)
  have e10 := e10_restore hR hp1
  refine lv_aload_n hx hb dL_law_489 rfl (lv_at hl 2 rfl) ?_
  refine k_VL (j := 10) (k0 := 0) (ls := ls) C0 hW1 (c_X6_restore l G w1  (mO_of (Rel_mO hR) e10)) km_L_80 ki_X6_restore ke_X6_restore kn_X6 kc_X6_restore rfl hdV_X6_restore ⟨Nat.le_of_ble_eq_true rfl, Nat.le_of_ble_eq_true rfl⟩ (show 10 < 11 ∧ 0 < bs 10 from ⟨by decide, by decide⟩) rfl rfl rfl hl.1 rfl (Nat.le_of_ble_eq_true rfl) ⟨Nat.le_of_ble_eq_true rfl, Nat.le_of_ble_eq_true rfl⟩ dL_law_490 (fun z2 w2 H2 locs2 rz2 hp2 hW2 => ?_)
  have f := st_restore hR hp1 hp2
  exact r_icmp_eq (tgt := 775) hx hb rz1 rz2 dL_law_493 (by decide) (fun _ => kk w2 H2 locs2 f.2 hW2) (fun h => absurd (inj_r rz1 rz2 f.1) h)
set_option maxHeartbeats 4000000 in
set_option maxRecDepth 100000 in
theorem law_commoner {p : Program} {l : Launch} {e : Env} {s : State} {m : MethodId} {below : List Frame} {meth : Method} {c : Code} {H : Heap} {locs : List Loc} {Q : State → Prop} {G : gG} {w : gW} {b L : Nat} {xs : Nat → Int32} {ls : Array Slot} (C0 : cx p s m #[Value.ref b] meth c yL_law cL_law 4 ret) (hX : va_X b L xs s s.heap) (hbl : b < s.heap.size) (hG : G.2.2 = s.heap.size) (hL : L ≤ 1536) {i : Int} (hi : 0 ≤ i ∧ i + 3 ≤ L) (hl : lv_has ls 4 [(0, .ref b), (1, .ref (ad G 0 0)), (2, .ref (ad G 10 0)), (3, .int (iI i))]) (hW : wo G w s H locs) {b0 b1 b2 b3 : Nat} (hR : Rel w b0 b1 b2 b3)
    (kk : ∀ (w2 : gW) (H2 : Heap) (locs2 : List Loc), (∃ b0 b1 b2 b3 : Nat, Rel w2 b0 b1 b2 b3) → wo G w2 s H2 locs2 → W p l e room_1 s m #[Value.ref b] below meth c H2 locs2 146 16195 Q (F0 m 775 ls [])) : W p l e room_1 s m #[Value.ref b] below meth c H locs 146 16195 Q (F0 m 498 ls []) := by
  have hx := C0.hx
  have hb := C0.hb
  refine lv_aload_n hx hb dL_law_498 rfl (lv_at hl 1 rfl) ?_
  refine lwA C0 hX hbl hG hL hi hl hW (k := 1) ⟨by omega, by omega⟩ dL_law_499 dL_law_500 dL_law_501 dL_law_502 dL_law_503 ?_
  refine lwA C0 hX hbl hG hL hi hl hW (k := 2) ⟨by omega, by omega⟩ dL_law_504 dL_law_505 dL_law_506 dL_law_507 dL_law_508 ?_
  refine k_VL (j := 0) (k0 := 0) (ls := ls) C0 hW (c_X5_commoner l G w hR.1 (sx xs (i + 1)) (sx xs (i + 2)) (sx_r _ _) (sx_r _ _)) km_L_81 ki_X5_commoner ke_X5_commoner kn_X5 kc_X5_commoner rfl hdV_X5_commoner ⟨Nat.le_of_ble_eq_true rfl, Nat.le_of_ble_eq_true rfl⟩ (show 0 < 11 ∧ 0 < bs 0 from ⟨by decide, by decide⟩) rfl rfl rfl hl.1 rfl (Nat.le_of_ble_eq_true rfl) ⟨Nat.le_of_ble_eq_true rfl, Nat.le_of_ble_eq_true rfl⟩ dL_law_509 (fun z1 w1 H1 locs1 rz1 hp1 hW1 => ?_)
  have e10 := e10_commoner hR hp1
  refine lv_aload_n hx hb dL_law_512 rfl (lv_at hl 2 rfl) ?_
  refine lwA C0 hX hbl hG hL hi hl hW1 (k := 1) ⟨by omega, by omega⟩ dL_law_513 dL_law_514 dL_law_515 dL_law_516 dL_law_517 ?_
  refine lwA C0 hX hbl hG hL hi hl hW1 (k := 2) ⟨by omega, by omega⟩ dL_law_518 dL_law_519 dL_law_520 dL_law_521 dL_law_522 ?_
  refine k_VL (j := 10) (k0 := 0) (ls := ls) C0 hW1 (c_X6_commoner l G w1 (sx xs (i + 1)) (sx xs (i + 2)) (sx_r _ _) (sx_r _ _) (mO_of (Rel_mO hR) e10)) km_L_84 ki_X6_commoner ke_X6_commoner kn_X6 kc_X6_commoner rfl hdV_X6_commoner ⟨Nat.le_of_ble_eq_true rfl, Nat.le_of_ble_eq_true rfl⟩ (show 10 < 11 ∧ 0 < bs 10 from ⟨by decide, by decide⟩) rfl rfl rfl hl.1 rfl (Nat.le_of_ble_eq_true rfl) ⟨Nat.le_of_ble_eq_true rfl, Nat.le_of_ble_eq_true rfl⟩ dL_law_523 (fun z2 w2 H2 locs2 rz2 hp2 hW2 => ?_)
  have f := st_commoner hR hp1 hp2
  exact r_icmp_eq (tgt := 775) hx hb rz1 rz2 dL_law_526 (by decide) (fun _ => kk w2 H2 locs2 f.2 hW2) (fun h => absurd (inj_r rz1 rz2 f.1) h)
