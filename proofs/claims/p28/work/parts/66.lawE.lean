theorem cv_told {w w1 : gW} {b0 b1 b2 b3 : Nat} {z : Int64} (h : po_L_told w b0 b1 b2 b3 z w1) : z = tdF (w 1) ∧ w = w1 := ⟨h.1, h.2.symm⟩
theorem cv_holds {w w1 : gW} {b0 b1 b2 b3 : Nat} {z : Int} (h : po_L_holds w b0 b1 b2 b3 z w1) : z = 1 ∧ w = w1 := ⟨h.1, h.2.symm⟩
set_option maxHeartbeats 4000000 in
set_option maxRecDepth 100000 in
theorem law_E {p : Program} {l : Launch} {e : Env} {s : State} {m : MethodId} {below : List Frame} {meth : Method} {c : Code} {H : Heap} {locs : List Loc} {Q : State → Prop} {G : gG} {w : gW} {b L : Nat} {xs : Nat → Int32} {ls : Array Slot} {b0 b1 b2 b3 : Nat} (C0 : cx p s m #[Value.ref b] meth c yL_law cL_law 15 ret) (hX : va_X b L xs s s.heap) (hbG : b < G.2.2) (hL : L ≤ 260)
    {t v : Int} {kq bh : Int64} (hG : Gd w b0 b1 b2 b3) (ht : 0 ≤ t ∧ t < 38) (hk : kq = tdF (w 2)) (hbh : bh = tdF (w 1)) (rv : inR v)
    (hl : lv_has ls 15 [(0, .ref b), (1, .ref (ad G 0 0)), (2, .long kq), (4, .int (iI t)), (5, .int (iI v)), (12, .long bh)]) (hW : wo G w s H locs)
    (kk : ∀ (w1 : gW) (H1 : Heap) (locs1 : List Loc) (a0 a1 a2 a3 : Nat) (kq1 : Int64) (ls1 : Array Slot), Gd w1 a0 a1 a2 a3 → kq1 = tdF (w1 2) → wo G w1 s H1 locs1 → lv_has ls1 15 [(0, .ref b), (1, .ref (ad G 0 0)), (2, .long kq1), (4, .int (iI (t + 1)))] → W p l e room_1 s m #[Value.ref b] below meth c H1 locs1 139 9415 Q (F0 m 43 ls1 [])) : W p l e room_1 s m #[Value.ref b] below meth c H locs 139 9415 Q (F0 m 291 ls []) := by
  have hx := C0.hx
  have hb := C0.hb
  have hO := hG.1
  have hI := hG.2.1
  refine lv_iload hx hb dL_law_291 (lv_at hl 3 rfl) ?_
  refine r_iconst hx hb dL_law_293 ?_
  refine r_irem hx hb ⟨by omega, by omega⟩ ⟨by omega, by omega⟩ (by omega) (by omega) dL_law_294 ?_
  refine r_iconst hx hb dL_law_295 ?_
  refine r_icmp_ne (tgt := 308) hx hb ⟨by omega, by omega⟩ ⟨by omega, by omega⟩ dL_law_296 (by decide) (fun c1 => ?_) (fun c1 => ?_)
  · refine lv_iload hx hb dL_law_308 (lv_at hl 4 rfl) ?_
    refine r_bipush hx hb dL_law_310 (by decide) ?_
    refine r_ishr hx hb dL_law_312 ?_
    refine r_bipush hx hb dL_law_313 (by decide) ?_
    refine r_iand hx hb dL_law_315 ?_
    refine r_if_ne (tgt := 327) hx hb (land_r _ _) dL_law_316 (by decide) (fun c2 => ?_) (fun c2 => ?_)
    · refine r_iinc (lv' := [(4, .int (iI (t + 1))), (0, .ref b), (1, .ref (ad G 0 0)), (2, .long kq), (5, .int (iI v)), (12, .long bh)]) hx hb dL_law_327 hl (k := 3) rfl (by decide) rfl (fun ls hl => ?_)
      refine lv_goto (tgt := 43) hx hb dL_law_330 (by decide) ?_
      exact kk _ _ _ _ _ _ _ _ _ hG hk hW (lv_sub hl [1, 2, 3, 0] rfl)
    · refine lv_aload_n hx hb dL_law_319 rfl (lv_at hl 1 rfl) ?_
      refine k_VL (j := 0) (k0 := 0) (ls := ls) C0 hW (c_X5_keep l G w (hO)) km_L_90 ki_X5_keep ke_X5_keep kn_X5 kc_X5_keep rfl hdV_X5_keep ⟨Nat.le_of_ble_eq_true rfl, Nat.le_of_ble_eq_true rfl⟩ (show 0 < 11 ∧ 0 < bs 0 from ⟨by decide, by decide⟩) rfl rfl rfl hl.1 rfl (Nat.le_of_ble_eq_true rfl) ⟨Nat.le_of_ble_eq_true rfl, Nat.le_of_ble_eq_true rfl⟩ dL_law_320 (fun z3 w3 H1 locs1 rz3 hp3 hW => ?_)
      have rz3a := rz3.1
      have rz3b := rz3.2
      refine lv_pop hx hb dL_law_323 rfl ?_
      refine lv_lload hx hb dL_law_324 (lv_at hl 5 rfl) ?_
      refine lv_lstore_n (lv' := [(2, .long bh), (0, .ref b), (1, .ref (ad G 0 0)), (4, .int (iI t)), (5, .int (iI v)), (12, .long bh)]) hx hb dL_law_326 rfl hl (by decide) rfl (fun ls hl => ?_)
      refine r_iinc (lv' := [(4, .int (iI (t + 1))), (2, .long bh), (0, .ref b), (1, .ref (ad G 0 0)), (5, .int (iI v)), (12, .long bh)]) hx hb dL_law_327 hl (k := 3) rfl (by decide) rfl (fun ls hl => ?_)
      refine lv_goto (tgt := 43) hx hb dL_law_330 (by decide) ?_
      obtain ⟨-, hg, e1, e2⟩ := Gd_keep hO hI hp3
      exact kk _ _ _ _ _ _ _ _ _ hg (by rw [e2]; exact hbh) hW (lv_sub hl [2, 3, 1, 0] rfl)
  · refine lv_aload_n hx hb dL_law_299 rfl (lv_at hl 1 rfl) ?_
    refine k_SL (ls := ls) C0 hW (As := [.ref (ad G 0 0)]) (c_L_holds l G w (hO) (hI)) km_L_105 ks_L_holds kn_L kc_L_holds rfl hdS_L_holds ⟨Nat.le_of_ble_eq_true rfl, Nat.le_of_ble_eq_true rfl⟩ rfl hl.1 rfl (Nat.le_of_ble_eq_true rfl) ⟨Nat.le_of_ble_eq_true rfl, Nat.le_of_ble_eq_true rfl⟩ dL_law_300 (fun z4 w4 H1 locs1 rz4 hp4 hW => ?_)
    have hv4 := cv_holds hp4
    clear hp4
    obtain ⟨hp4, hq4⟩ := hv4
    subst hq4
    have rz4a := rz4.1
    have rz4b := rz4.2
    refine r_if_ne (tgt := 308) hx hb rz4 dL_law_303 (by decide) (fun c5 => ?_) (fun c5 => ?_)
    · refine lv_iload hx hb dL_law_308 (lv_at hl 4 rfl) ?_
      refine r_bipush hx hb dL_law_310 (by decide) ?_
      refine r_ishr hx hb dL_law_312 ?_
      refine r_bipush hx hb dL_law_313 (by decide) ?_
      refine r_iand hx hb dL_law_315 ?_
      refine r_if_ne (tgt := 327) hx hb (land_r _ _) dL_law_316 (by decide) (fun c6 => ?_) (fun c6 => ?_)
      · refine r_iinc (lv' := [(4, .int (iI (t + 1))), (0, .ref b), (1, .ref (ad G 0 0)), (2, .long kq), (5, .int (iI v)), (12, .long bh)]) hx hb dL_law_327 hl (k := 3) rfl (by decide) rfl (fun ls hl => ?_)
        refine lv_goto (tgt := 43) hx hb dL_law_330 (by decide) ?_
        exact kk _ _ _ _ _ _ _ _ _ hG hk hW (lv_sub hl [1, 2, 3, 0] rfl)
      · refine lv_aload_n hx hb dL_law_319 rfl (lv_at hl 1 rfl) ?_
        refine k_VL (j := 0) (k0 := 0) (ls := ls) C0 hW (c_X5_keep l G w (hO)) km_L_90 ki_X5_keep ke_X5_keep kn_X5 kc_X5_keep rfl hdV_X5_keep ⟨Nat.le_of_ble_eq_true rfl, Nat.le_of_ble_eq_true rfl⟩ (show 0 < 11 ∧ 0 < bs 0 from ⟨by decide, by decide⟩) rfl rfl rfl hl.1 rfl (Nat.le_of_ble_eq_true rfl) ⟨Nat.le_of_ble_eq_true rfl, Nat.le_of_ble_eq_true rfl⟩ dL_law_320 (fun z7 w7 H1 locs1 rz7 hp7 hW => ?_)
        have rz7a := rz7.1
        have rz7b := rz7.2
        refine lv_pop hx hb dL_law_323 rfl ?_
        refine lv_lload hx hb dL_law_324 (lv_at hl 5 rfl) ?_
        refine lv_lstore_n (lv' := [(2, .long bh), (0, .ref b), (1, .ref (ad G 0 0)), (4, .int (iI t)), (5, .int (iI v)), (12, .long bh)]) hx hb dL_law_326 rfl hl (by decide) rfl (fun ls hl => ?_)
        refine r_iinc (lv' := [(4, .int (iI (t + 1))), (2, .long bh), (0, .ref b), (1, .ref (ad G 0 0)), (5, .int (iI v)), (12, .long bh)]) hx hb dL_law_327 hl (k := 3) rfl (by decide) rfl (fun ls hl => ?_)
        refine lv_goto (tgt := 43) hx hb dL_law_330 (by decide) ?_
        obtain ⟨-, hg, e1, e2⟩ := Gd_keep hO hI hp7
        exact kk _ _ _ _ _ _ _ _ _ hg (by rw [e2]; exact hbh) hW (lv_sub hl [2, 3, 1, 0] rfl)
    · exfalso; omega
set_option maxHeartbeats 4000000 in
set_option maxRecDepth 100000 in
theorem law_D {p : Program} {l : Launch} {e : Env} {s : State} {m : MethodId} {below : List Frame} {meth : Method} {c : Code} {H : Heap} {locs : List Loc} {Q : State → Prop} {G : gG} {w : gW} {b L : Nat} {xs : Nat → Int32} {ls : Array Slot} {b0 b1 b2 b3 : Nat} (C0 : cx p s m #[Value.ref b] meth c yL_law cL_law 15 ret) (hX : va_X b L xs s s.heap) (hbG : b < G.2.2) (hL : L ≤ 260)
    {t v u z : Int} {kq bh bf : Int64} {M : gM} (hG : Gd w b0 b1 b2 b3) (ht : 0 ≤ t ∧ t < 38) (hk : kq = tdF (w 2)) (hbf : bf = tdF M) (hbh : bh = tdF (w 1)) (rv : inR v) (ru : inR u) (rz : inR z) (hIM : Inv M) (hM : w b0 = M) (hz : iI z = iI (actF M (w 2) v u).1) (z0 : 0 ≤ z) (hF : w 1 = (actF M (w 2) v u).2) (hs : 0 < gN (w 4) 0 4)
    (hl : lv_has ls 15 [(0, .ref b), (1, .ref (ad G 0 0)), (2, .long kq), (4, .int (iI t)), (5, .int (iI v)), (6, .int (iI u)), (7, .long bf), (11, .int (iI z)), (12, .long bh)]) (hW : wo G w s H locs)
    (kk : ∀ (w1 : gW) (H1 : Heap) (locs1 : List Loc) (a0 a1 a2 a3 : Nat) (kq1 : Int64) (ls1 : Array Slot), Gd w1 a0 a1 a2 a3 → kq1 = tdF (w1 2) → wo G w1 s H1 locs1 → lv_has ls1 15 [(0, .ref b), (1, .ref (ad G 0 0)), (2, .long kq1), (4, .int (iI (t + 1)))] → W p l e room_1 s m #[Value.ref b] below meth c H1 locs1 139 9415 Q (F0 m 43 ls1 [])) : W p l e room_1 s m #[Value.ref b] below meth c H locs 139 9415 Q (F0 m 222 ls []) := by
  have hx := C0.hx
  have hb := C0.hb
  have hO := hG.1
  have hI := hG.2.1
  have hs4 := hO.2.2.2.1
  refine lv_iload hx hb dL_law_222 (lv_at hl 7 rfl) ?_
  refine r_if_lt (tgt := 291) hx hb rz dL_law_224 (by decide) (fun c1 => ?_) (fun c1 => ?_)
  · exfalso; omega
  · refine lv_iload hx hb dL_law_227 (lv_at hl 4 rfl) ?_
    refine r_bipush hx hb dL_law_229 (by decide) ?_
    refine r_ishr hx hb dL_law_231 ?_
    refine r_iconst hx hb dL_law_232 ?_
    refine r_iand hx hb dL_law_233 ?_
    refine r_if_ne (tgt := 291) hx hb (land_r _ _) dL_law_234 (by decide) (fun c2 => ?_) (fun c2 => ?_)
    · exact law_E C0 hX hbG hL hG ht hk hbh rv (lv_sub hl [0, 1, 2, 3, 4, 8] rfl) hW kk
    · refine lv_aload_n hx hb dL_law_237 rfl (lv_at hl 1 rfl) ?_
      refine r_bipush hx hb dL_law_238 (by decide) ?_
      refine k_VL (j := 0) (k0 := 0) (ls := ls) C0 hW (c_X5_count l G w (hO) 13 ⟨by omega, by omega⟩) km_L_12 ki_X5_count ke_X5_count kn_X5 kc_X5_count rfl hdV_X5_count ⟨Nat.le_of_ble_eq_true rfl, Nat.le_of_ble_eq_true rfl⟩ (show 0 < 11 ∧ 0 < bs 0 from ⟨by decide, by decide⟩) rfl rfl rfl hl.1 rfl (Nat.le_of_ble_eq_true rfl) ⟨Nat.le_of_ble_eq_true rfl, Nat.le_of_ble_eq_true rfl⟩ dL_law_240 (fun z3 w3 H1 locs1 rz3 hp3 hW => ?_)
      have hv3 := cv_13 hp3
      clear hp3
      obtain ⟨hp3, hq3⟩ := hv3
      subst hq3
      have rz3a := rz3.1
      have rz3b := rz3.2
      refine r_iconst hx hb dL_law_243 ?_
      refine r_isub hx hb dL_law_244 ?_
      refine lv_istore (lv' := [(14, .int (iI (z3 - 1))), (0, .ref b), (1, .ref (ad G 0 0)), (2, .long kq), (4, .int (iI t)), (5, .int (iI v)), (6, .int (iI u)), (7, .long bf), (11, .int (iI z)), (12, .long bh)]) hx hb dL_law_245 hl (by decide) rfl (fun ls hl => ?_)
      refine lv_aload_n hx hb dL_law_247 rfl (lv_at hl 2 rfl) ?_
      refine k_VL (j := 0) (k0 := 0) (ls := ls) C0 hW (c_X5_undo l G w (hO)) km_L_87 ki_X5_undo ke_X5_undo kn_X5 kc_X5_undo rfl hdV_X5_undo ⟨Nat.le_of_ble_eq_true rfl, Nat.le_of_ble_eq_true rfl⟩ (show 0 < 11 ∧ 0 < bs 0 from ⟨by decide, by decide⟩) rfl rfl rfl hl.1 rfl (Nat.le_of_ble_eq_true rfl) ⟨Nat.le_of_ble_eq_true rfl, Nat.le_of_ble_eq_true rfl⟩ dL_law_248 (fun z4 w4 H1 locs1 rz4 hp4 hW => ?_)
      have rz4a := rz4.1
      have rz4b := rz4.2
      obtain ⟨eU, gU, u1, u2⟩ := Gd_undo hG (by rw [hM]; exact hIM) hs hp4
      have hO := gU.1
      refine lv_iload hx hb dL_law_251 (lv_at hl 0 rfl) ?_
      refine r_icmp_ne (tgt := 289) hx hb rz4 ⟨by omega, by omega⟩ dL_law_253 (by decide) (fun c5 => ?_) (fun c5 => ?_)
      · exfalso; omega
      · refine lv_aload_n hx hb dL_law_256 rfl (lv_at hl 2 rfl) ?_
        refine k_SLl (ls := ls) C0 hW (As := [.ref (ad G 0 0)]) (c_L_told l G w4 (hO)) km_L_93 ks_L_told kn_L kc_L_told rfl hdS_L_told ⟨Nat.le_of_ble_eq_true rfl, Nat.le_of_ble_eq_true rfl⟩ rfl hl.1 rfl (Nat.le_of_ble_eq_true rfl) ⟨Nat.le_of_ble_eq_true rfl, Nat.le_of_ble_eq_true rfl⟩ dL_law_257 (fun z6 w6 H1 locs1 hp6 hW => ?_)
        have hv6 := cv_told hp6
        clear hp6
        obtain ⟨hp6, hq6⟩ := hv6
        subst hq6
        refine lv_lload hx hb dL_law_260 (lv_at hl 7 rfl) ?_
        refine r_lcmp hx hb dL_law_262 ?_
        have kz7 : (cmpZ z6 bf) = 0 := by rw [hp6, u1, hM, hbf]; exact cmpZ_e _
        refine r_if_ne (tgt := 289) hx hb (cmpZ_r _ _) dL_law_263 (by decide) (fun c8 => ?_) (fun c8 => ?_)
        · exfalso; omega
        · refine lv_aload_n hx hb dL_law_266 rfl (lv_at hl 2 rfl) ?_
          refine lv_iload hx hb dL_law_267 (lv_at hl 5 rfl) ?_
          refine lv_iload hx hb dL_law_269 (lv_at hl 6 rfl) ?_
          refine k_SL (ls := ls) C0 hW (As := [.ref (ad G 0 0), .int (iI v), .int (iI u)]) (c_L_act l G w4 (hO) v rv u ru) km_L_101 ks_L_act kn_L kc_L_act rfl hdS_L_act ⟨Nat.le_of_ble_eq_true rfl, Nat.le_of_ble_eq_true rfl⟩ rfl hl.1 rfl (Nat.le_of_ble_eq_true rfl) ⟨Nat.le_of_ble_eq_true rfl, Nat.le_of_ble_eq_true rfl⟩ dL_law_271 (fun z9 w9 H1 locs1 rz9 hp9 hW => ?_)
          have rz9a := rz9.1
          have rz9b := rz9.2
          have sA := act_s gU.1 gU.2.1 gU.2.2.1 gU.2.2.2 rz9 hp9
          rw [u1, u2, hM] at sA
          have eA : z9 = z := (iI_eq rz9 rz).1 (sA.1.trans hz.symm)
          obtain ⟨gY, y1, y2, -, -⟩ := Gd_yes gU (act_i hIM hG.2.2.1 v u) sA (by omega)
          have hO := gY.1
          refine lv_iload hx hb dL_law_274 (lv_at hl 8 rfl) ?_
          refine r_icmp_ne (tgt := 289) hx hb rz9 rz dL_law_276 (by decide) (fun c10 => ?_) (fun c10 => ?_)
          · exfalso; omega
          · refine lv_aload_n hx hb dL_law_279 rfl (lv_at hl 2 rfl) ?_
            refine k_SLl (ls := ls) C0 hW (As := [.ref (ad G 0 0)]) (c_L_told l G w9 (hO)) km_L_93 ks_L_told kn_L kc_L_told rfl hdS_L_told ⟨Nat.le_of_ble_eq_true rfl, Nat.le_of_ble_eq_true rfl⟩ rfl hl.1 rfl (Nat.le_of_ble_eq_true rfl) ⟨Nat.le_of_ble_eq_true rfl, Nat.le_of_ble_eq_true rfl⟩ dL_law_280 (fun z11 w11 H1 locs1 hp11 hW => ?_)
            have hv11 := cv_told hp11
            clear hp11
            obtain ⟨hp11, hq11⟩ := hv11
            subst hq11
            refine lv_lload hx hb dL_law_283 (lv_at hl 9 rfl) ?_
            refine r_lcmp hx hb dL_law_285 ?_
            have kz12 : (cmpZ z11 bh) = 0 := by rw [hp11, y1, hbh, hF]; exact cmpZ_e _
            refine r_if_eq (tgt := 291) hx hb (cmpZ_r _ _) dL_law_286 (by decide) (fun c13 => ?_) (fun c13 => ?_)
            · exact law_E C0 hX hbG hL gY ht (by rw [y2, u2]; exact hk) (by rw [hbh, hF, y1]) rv (lv_sub hl [1, 2, 3, 4, 5, 9] rfl) hW kk
            · exfalso; omega
set_option maxHeartbeats 4000000 in
set_option maxRecDepth 100000 in
theorem law_C {p : Program} {l : Launch} {e : Env} {s : State} {m : MethodId} {below : List Frame} {meth : Method} {c : Code} {H : Heap} {locs : List Loc} {Q : State → Prop} {G : gG} {w : gW} {b L : Nat} {xs : Nat → Int32} {ls : Array Slot} {b0 b1 b2 b3 : Nat} (C0 : cx p s m #[Value.ref b] meth c yL_law cL_law 15 ret) (hX : va_X b L xs s s.heap) (hbG : b < G.2.2) (hL : L ≤ 260)
    {t v u z hm : Int} {kq bh bf : Int64} {M : gM} (hG : Gd w b0 b1 b2 b3) (ht : 0 ≤ t ∧ t < 38) (hk : kq = tdF (w 2)) (hbf : bf = tdF M) (hbh : bh = tdF (w 1)) (rv : inR v) (ru : inR u) (rz : inR z) (hIM : Inv M) (hM : w b0 = M) (hz : iI z = iI (actF M (w 2) v u).1) (z0 : 0 ≤ z) (hF : w 1 = (actF M (w 2) v u).2) (hs : 0 < gN (w 4) 0 4) (hhm : hm = gN M 0 13)
    (hl : lv_has ls 15 [(0, .ref b), (1, .ref (ad G 0 0)), (2, .long kq), (4, .int (iI t)), (5, .int (iI v)), (6, .int (iI u)), (7, .long bf), (10, .int (iI hm)), (11, .int (iI z)), (12, .long bh)]) (hW : wo G w s H locs)
    (kk : ∀ (w1 : gW) (H1 : Heap) (locs1 : List Loc) (a0 a1 a2 a3 : Nat) (kq1 : Int64) (ls1 : Array Slot), Gd w1 a0 a1 a2 a3 → kq1 = tdF (w1 2) → wo G w1 s H1 locs1 → lv_has ls1 15 [(0, .ref b), (1, .ref (ad G 0 0)), (2, .long kq1), (4, .int (iI (t + 1)))] → W p l e room_1 s m #[Value.ref b] below meth c H1 locs1 139 9415 Q (F0 m 43 ls1 [])) : W p l e room_1 s m #[Value.ref b] below meth c H locs 139 9415 Q (F0 m 162 ls []) := by
  have hx := C0.hx
  have hb := C0.hb
  have hO := hG.1
  have hI := hG.2.1
  refine lv_iload hx hb dL_law_162 (lv_at hl 8 rfl) ?_
  refine r_if_lt (tgt := 191) hx hb rz dL_law_164 (by decide) (fun c1 => ?_) (fun c1 => ?_)
  · exfalso; omega
  · refine lv_iload hx hb dL_law_167 (lv_at hl 4 rfl) ?_
    refine r_bipush hx hb dL_law_169 (by decide) ?_
    refine r_iand hx hb dL_law_171 ?_
    refine r_bipush hx hb dL_law_172 (by decide) ?_
    refine r_icmp_le (tgt := 191) hx hb (land_r _ _) ⟨by omega, by omega⟩ dL_law_174 (by decide) (fun c2 => ?_) (fun c2 => ?_)
    · refine lv_iload hx hb dL_law_191 (lv_at hl 8 rfl) ?_
      refine r_if_lt (tgt := 222) hx hb rz dL_law_193 (by decide) (fun c3 => ?_) (fun c3 => ?_)
      · exfalso; omega
      · refine lv_iload hx hb dL_law_196 (lv_at hl 4 rfl) ?_
        refine r_bipush hx hb dL_law_198 (by decide) ?_
        refine r_iand hx hb dL_law_200 ?_
        refine r_bipush hx hb dL_law_201 (by decide) ?_
        refine r_icmp_ne (tgt := 222) hx hb (land_r _ _) ⟨by omega, by omega⟩ dL_law_203 (by decide) (fun c4 => ?_) (fun c4 => ?_)
        · exact law_D C0 hX hbG hL hG ht hk hbf hbh rv ru rz hIM hM hz z0 hF hs (lv_sub hl [0, 1, 2, 3, 4, 5, 6, 8, 9] rfl) hW kk
        · refine lv_iload hx hb dL_law_206 (lv_at hl 5 rfl) ?_
          refine r_iconst hx hb dL_law_208 ?_
          refine r_iand hx hb dL_law_209 ?_
          refine r_if_le (tgt := 222) hx hb (land_r _ _) dL_law_210 (by decide) (fun c5 => ?_) (fun c5 => ?_)
          · exact law_D C0 hX hbG hL hG ht hk hbf hbh rv ru rz hIM hM hz z0 hF hs (lv_sub hl [0, 1, 2, 3, 4, 5, 6, 8, 9] rfl) hW kk
          · refine lv_lload hx hb dL_law_213 (lv_at hl 9 rfl) ?_
            refine lv_lload_n hx hb dL_law_215 rfl (lv_at hl 2 rfl) ?_
            refine r_lcmp hx hb dL_law_216 ?_
            have kz6 : (cmpZ bh kq) = 0 := by rw [hbh, hk, hF, res_h (by assumption) (by omega)]; exact cmpZ_e _
            refine r_if_eq (tgt := 222) hx hb (cmpZ_r _ _) dL_law_217 (by decide) (fun c7 => ?_) (fun c7 => ?_)
            · exact law_D C0 hX hbG hL hG ht hk hbf hbh rv ru rz hIM hM hz z0 hF hs (lv_sub hl [0, 1, 2, 3, 4, 5, 6, 8, 9] rfl) hW kk
            · exfalso; omega
    · refine lv_aload_n hx hb dL_law_177 rfl (lv_at hl 1 rfl) ?_
      refine r_bipush hx hb dL_law_178 (by decide) ?_
      refine k_VL (j := 0) (k0 := 0) (ls := ls) C0 hW (c_X5_count l G w (hO) 6 ⟨by omega, by omega⟩) km_L_12 ki_X5_count ke_X5_count kn_X5 kc_X5_count rfl hdV_X5_count ⟨Nat.le_of_ble_eq_true rfl, Nat.le_of_ble_eq_true rfl⟩ (show 0 < 11 ∧ 0 < bs 0 from ⟨by decide, by decide⟩) rfl rfl rfl hl.1 rfl (Nat.le_of_ble_eq_true rfl) ⟨Nat.le_of_ble_eq_true rfl, Nat.le_of_ble_eq_true rfl⟩ dL_law_180 (fun z8 w8 H1 locs1 rz8 hp8 hW => ?_)
      have hv8 := cv_cnt hp8 rz8 (by omega)
      clear hp8
      obtain ⟨hp8, hq8⟩ := hv8
      subst hq8
      have rz8a := rz8.1
      have rz8b := rz8.2
      have hp8 : z8 = gN (w 1) 0 13 := hp8
      have hps := pass_h (K := w 2) hIM (by omega) rz hz z0
      rw [← hF] at hps
      have hh1 := Inv_home hI
      have hh2 := Inv_home hIM
      skip
      refine lv_iload hx hb dL_law_183 (lv_at hl 7 rfl) ?_
      refine lv_iload hx hb dL_law_185 (lv_at hl 8 rfl) ?_
      refine r_iadd hx hb dL_law_187 ?_
      refine r_icmp_ne (tgt := 220) hx hb rz8 ⟨by omega, by omega⟩ dL_law_188 (by decide) (fun c9 => ?_) (fun c9 => ?_)
      · exfalso; omega
      · refine lv_iload hx hb dL_law_191 (lv_at hl 8 rfl) ?_
        refine r_if_lt (tgt := 222) hx hb rz dL_law_193 (by decide) (fun c10 => ?_) (fun c10 => ?_)
        · exfalso; omega
        · refine lv_iload hx hb dL_law_196 (lv_at hl 4 rfl) ?_
          refine r_bipush hx hb dL_law_198 (by decide) ?_
          refine r_iand hx hb dL_law_200 ?_
          refine r_bipush hx hb dL_law_201 (by decide) ?_
          refine r_icmp_ne (tgt := 222) hx hb (land_r _ _) ⟨by omega, by omega⟩ dL_law_203 (by decide) (fun c11 => ?_) (fun c11 => ?_)
          · exact law_D C0 hX hbG hL hG ht hk hbf hbh rv ru rz hIM hM hz z0 hF hs (lv_sub hl [0, 1, 2, 3, 4, 5, 6, 8, 9] rfl) hW kk
          · refine lv_iload hx hb dL_law_206 (lv_at hl 5 rfl) ?_
            refine r_iconst hx hb dL_law_208 ?_
            refine r_iand hx hb dL_law_209 ?_
            refine r_if_le (tgt := 222) hx hb (land_r _ _) dL_law_210 (by decide) (fun c12 => ?_) (fun c12 => ?_)
            · exact law_D C0 hX hbG hL hG ht hk hbf hbh rv ru rz hIM hM hz z0 hF hs (lv_sub hl [0, 1, 2, 3, 4, 5, 6, 8, 9] rfl) hW kk
            · refine lv_lload hx hb dL_law_213 (lv_at hl 9 rfl) ?_
              refine lv_lload_n hx hb dL_law_215 rfl (lv_at hl 2 rfl) ?_
              refine r_lcmp hx hb dL_law_216 ?_
              have kz13 : (cmpZ bh kq) = 0 := by rw [hbh, hk, hF, res_h (by assumption) (by omega)]; exact cmpZ_e _
              refine r_if_eq (tgt := 222) hx hb (cmpZ_r _ _) dL_law_217 (by decide) (fun c14 => ?_) (fun c14 => ?_)
              · exact law_D C0 hX hbG hL hG ht hk hbf hbh rv ru rz hIM hM hz z0 hF hs (lv_sub hl [0, 1, 2, 3, 4, 5, 6, 8, 9] rfl) hW kk
              · exfalso; omega
set_option maxHeartbeats 4000000 in
set_option maxRecDepth 100000 in
theorem law_B {p : Program} {l : Launch} {e : Env} {s : State} {m : MethodId} {below : List Frame} {meth : Method} {c : Code} {H : Heap} {locs : List Loc} {Q : State → Prop} {G : gG} {w : gW} {b L : Nat} {xs : Nat → Int32} {ls : Array Slot} {b0 b1 b2 b3 : Nat} (C0 : cx p s m #[Value.ref b] meth c yL_law cL_law 15 ret) (hX : va_X b L xs s s.heap) (hbG : b < G.2.2) (hL : L ≤ 260)
    {t v u z hm sn : Int} {kq bh bf : Int64} {M : gM} (hG : Gd w b0 b1 b2 b3) (ht : 0 ≤ t ∧ t < 38) (hk : kq = tdF (w 2)) (hbf : bf = tdF M) (hbh : bh = tdF (w 1)) (rv : inR v) (ru : inR u) (rz : inR z) (hIM : Inv M) (hM : w b0 = M) (hz : iI z = iI (actF M (w 2) v u).1) (z0 : 0 ≤ z) (hF : w 1 = (actF M (w 2) v u).2) (hs : 0 < gN (w 4) 0 4) (hhm : hm = gN M 0 13) (hsn : 0 ≤ sn ∧ sn ≤ 4) (h4 : gN (w 4) 0 4 = min 4 (sn + 1))
    (hl : lv_has ls 15 [(0, .ref b), (1, .ref (ad G 0 0)), (2, .long kq), (4, .int (iI t)), (5, .int (iI v)), (6, .int (iI u)), (7, .long bf), (9, .int (iI sn)), (10, .int (iI hm)), (11, .int (iI z)), (12, .long bh)]) (hW : wo G w s H locs)
    (kk : ∀ (w1 : gW) (H1 : Heap) (locs1 : List Loc) (a0 a1 a2 a3 : Nat) (kq1 : Int64) (ls1 : Array Slot), Gd w1 a0 a1 a2 a3 → kq1 = tdF (w1 2) → wo G w1 s H1 locs1 → lv_has ls1 15 [(0, .ref b), (1, .ref (ad G 0 0)), (2, .long kq1), (4, .int (iI (t + 1)))] → W p l e room_1 s m #[Value.ref b] below meth c H1 locs1 139 9415 Q (F0 m 43 ls1 [])) : W p l e room_1 s m #[Value.ref b] below meth c H locs 139 9415 Q (F0 m 110 ls []) := by
  have hx := C0.hx
  have hb := C0.hb
  have hO := hG.1
  have hI := hG.2.1
  refine lv_iload hx hb dL_law_110 (lv_at hl 9 rfl) ?_
  refine r_if_ge (tgt := 137) hx hb rz dL_law_112 (by decide) (fun c1 => ?_) (fun c1 => ?_)
  · refine lv_aload_n hx hb dL_law_137 rfl (lv_at hl 1 rfl) ?_
    refine r_bipush hx hb dL_law_138 (by decide) ?_
    refine k_VL (j := 0) (k0 := 0) (ls := ls) C0 hW (c_X5_count l G w (hO) 13 ⟨by omega, by omega⟩) km_L_12 ki_X5_count ke_X5_count kn_X5 kc_X5_count rfl hdV_X5_count ⟨Nat.le_of_ble_eq_true rfl, Nat.le_of_ble_eq_true rfl⟩ (show 0 < 11 ∧ 0 < bs 0 from ⟨by decide, by decide⟩) rfl rfl rfl hl.1 rfl (Nat.le_of_ble_eq_true rfl) ⟨Nat.le_of_ble_eq_true rfl, Nat.le_of_ble_eq_true rfl⟩ dL_law_140 (fun z2 w2 H1 locs1 rz2 hp2 hW => ?_)
    have hv2 := cv_13 hp2
    clear hp2
    obtain ⟨hp2, hq2⟩ := hv2
    subst hq2
    have rz2a := rz2.1
    have rz2b := rz2.2
    refine lv_iload hx hb dL_law_143 (lv_at hl 7 rfl) ?_
    refine r_iconst hx hb dL_law_145 ?_
    refine r_icmp_ge (tgt := 156) hx hb ⟨by omega, by omega⟩ ⟨by omega, by omega⟩ dL_law_146 (by decide) (fun c3 => ?_) (fun c3 => ?_)
    · refine r_iconst hx hb dL_law_156 ?_
      refine r_icmp_eq (tgt := 162) hx hb rz2 ⟨by omega, by omega⟩ dL_law_157 (by decide) (fun c4 => ?_) (fun c4 => ?_)
      · exact law_C C0 hX hbG hL hG ht hk hbf hbh rv ru rz hIM hM hz z0 hF hs hhm (lv_sub hl [0, 1, 2, 3, 4, 5, 6, 8, 9, 10] rfl) hW kk
      · exfalso; omega
    · refine lv_iload hx hb dL_law_149 (lv_at hl 7 rfl) ?_
      refine r_iconst hx hb dL_law_151 ?_
      refine r_iadd hx hb dL_law_152 ?_
      refine lv_goto (tgt := 157) hx hb dL_law_153 (by decide) ?_
      refine r_icmp_eq (tgt := 162) hx hb rz2 ⟨by omega, by omega⟩ dL_law_157 (by decide) (fun c5 => ?_) (fun c5 => ?_)
      · exact law_C C0 hX hbG hL hG ht hk hbf hbh rv ru rz hIM hM hz z0 hF hs hhm (lv_sub hl [0, 1, 2, 3, 4, 5, 6, 8, 9, 10] rfl) hW kk
      · exfalso; omega
  · exfalso; omega
set_option maxHeartbeats 4000000 in
set_option maxRecDepth 100000 in
theorem law_R {p : Program} {l : Launch} {e : Env} {s : State} {m : MethodId} {below : List Frame} {meth : Method} {c : Code} {H : Heap} {locs : List Loc} {Q : State → Prop} {G : gG} {w : gW} {b L : Nat} {xs : Nat → Int32} {ls : Array Slot} {b0 b1 b2 b3 : Nat} (C0 : cx p s m #[Value.ref b] meth c yL_law cL_law 15 ret) (hX : va_X b L xs s s.heap) (hbG : b < G.2.2) (hL : L ≤ 260)
    {t v u z hm sn : Int} {kq bh bf : Int64} (hG : Gd w b0 b1 b2 b3) (ht : 0 ≤ t ∧ t < 38) (hk : kq = tdF (w 2)) (hbf : bf = tdF (w 1)) (hbh : bh = tdF (w 1)) (rv : inR v) (ru : inR u) (rz : inR z) (z0 : z < 0) (hsn : 0 ≤ sn ∧ sn ≤ 4) (h4 : gN (w 4) 0 4 = sn)
    (hl : lv_has ls 15 [(0, .ref b), (1, .ref (ad G 0 0)), (2, .long kq), (4, .int (iI t)), (5, .int (iI v)), (6, .int (iI u)), (7, .long bf), (9, .int (iI sn)), (10, .int (iI hm)), (11, .int (iI z)), (12, .long bh)]) (hW : wo G w s H locs)
    (kk : ∀ (w1 : gW) (H1 : Heap) (locs1 : List Loc) (a0 a1 a2 a3 : Nat) (kq1 : Int64) (ls1 : Array Slot), Gd w1 a0 a1 a2 a3 → kq1 = tdF (w1 2) → wo G w1 s H1 locs1 → lv_has ls1 15 [(0, .ref b), (1, .ref (ad G 0 0)), (2, .long kq1), (4, .int (iI (t + 1)))] → W p l e room_1 s m #[Value.ref b] below meth c H1 locs1 139 9415 Q (F0 m 43 ls1 [])) : W p l e room_1 s m #[Value.ref b] below meth c H locs 139 9415 Q (F0 m 110 ls []) := by
  have hx := C0.hx
  have hb := C0.hb
  have hO := hG.1
  have hI := hG.2.1
  refine lv_iload hx hb dL_law_110 (lv_at hl 9 rfl) ?_
  refine r_if_ge (tgt := 137) hx hb rz dL_law_112 (by decide) (fun c1 => ?_) (fun c1 => ?_)
  · exfalso; omega
  · refine lv_lload hx hb dL_law_115 (lv_at hl 10 rfl) ?_
    refine lv_lload hx hb dL_law_117 (lv_at hl 6 rfl) ?_
    refine r_lcmp hx hb dL_law_119 ?_
    have kz2 : (cmpZ bh bf) = 0 := by rw [hbf, hbh]; exact cmpZ_e _
    refine r_if_ne (tgt := 160) hx hb (cmpZ_r _ _) dL_law_120 (by decide) (fun c3 => ?_) (fun c3 => ?_)
    · exfalso; omega
    · refine lv_aload_n hx hb dL_law_123 rfl (lv_at hl 1 rfl) ?_
      refine r_bipush hx hb dL_law_124 (by decide) ?_
      refine k_VL (j := 0) (k0 := 0) (ls := ls) C0 hW (c_X5_count l G w (hO) 13 ⟨by omega, by omega⟩) km_L_12 ki_X5_count ke_X5_count kn_X5 kc_X5_count rfl hdV_X5_count ⟨Nat.le_of_ble_eq_true rfl, Nat.le_of_ble_eq_true rfl⟩ (show 0 < 11 ∧ 0 < bs 0 from ⟨by decide, by decide⟩) rfl rfl rfl hl.1 rfl (Nat.le_of_ble_eq_true rfl) ⟨Nat.le_of_ble_eq_true rfl, Nat.le_of_ble_eq_true rfl⟩ dL_law_126 (fun z4 w4 H1 locs1 rz4 hp4 hW => ?_)
      have hv4 := cv_13 hp4
      clear hp4
      obtain ⟨hp4, hq4⟩ := hv4
      subst hq4
      have rz4a := rz4.1
      have rz4b := rz4.2
      refine lv_iload hx hb dL_law_129 (lv_at hl 7 rfl) ?_
      refine r_icmp_eq (tgt := 162) hx hb rz4 ⟨by omega, by omega⟩ dL_law_131 (by decide) (fun c5 => ?_) (fun c5 => ?_)
      · refine lv_iload hx hb dL_law_162 (lv_at hl 9 rfl) ?_
        refine r_if_lt (tgt := 191) hx hb rz dL_law_164 (by decide) (fun c6 => ?_) (fun c6 => ?_)
        · refine lv_iload hx hb dL_law_191 (lv_at hl 9 rfl) ?_
          refine r_if_lt (tgt := 222) hx hb rz dL_law_193 (by decide) (fun c7 => ?_) (fun c7 => ?_)
          · refine lv_iload hx hb dL_law_222 (lv_at hl 9 rfl) ?_
            refine r_if_lt (tgt := 291) hx hb rz dL_law_224 (by decide) (fun c8 => ?_) (fun c8 => ?_)
            · exact law_E C0 hX hbG hL hG ht hk hbh rv (lv_sub hl [0, 1, 2, 3, 4, 10] rfl) hW kk
            · exfalso; omega
          · exfalso; omega
        · exfalso; omega
      · refine lv_goto (tgt := 160) hx hb dL_law_134 (by decide) ?_
        exfalso; omega
set_option maxHeartbeats 4000000 in
set_option maxRecDepth 100000 in
theorem law_A {p : Program} {l : Launch} {e : Env} {s : State} {m : MethodId} {below : List Frame} {meth : Method} {c : Code} {H : Heap} {locs : List Loc} {Q : State → Prop} {G : gG} {w : gW} {b L : Nat} {xs : Nat → Int32} {ls : Array Slot} {b0 b1 b2 b3 : Nat} (C0 : cx p s m #[Value.ref b] meth c yL_law cL_law 15 ret) (hX : va_X b L xs s s.heap) (hbG : b < G.2.2) (hL : L ≤ 260)
    {t : Int} {kq : Int64} (hG : Gd w b0 b1 b2 b3) (ht : 0 ≤ t ∧ t < 38) (hk : kq = tdF (w 2))
    (hl : lv_has ls 15 [(0, .ref b), (1, .ref (ad G 0 0)), (2, .long kq), (4, .int (iI t))]) (hW : wo G w s H locs)
    (kk : ∀ (w1 : gW) (H1 : Heap) (locs1 : List Loc) (a0 a1 a2 a3 : Nat) (kq1 : Int64) (ls1 : Array Slot), Gd w1 a0 a1 a2 a3 → kq1 = tdF (w1 2) → wo G w1 s H1 locs1 → lv_has ls1 15 [(0, .ref b), (1, .ref (ad G 0 0)), (2, .long kq1), (4, .int (iI (t + 1)))] → W p l e room_1 s m #[Value.ref b] below meth c H1 locs1 139 9415 Q (F0 m 43 ls1 [])) : W p l e room_1 s m #[Value.ref b] below meth c H locs 139 9415 Q (F0 m 50 ls []) := by
  have hx := C0.hx
  have hb := C0.hb
  have hO := hG.1
  have hI := hG.2.1
  have hs4 := hO.2.2.2.1
  refine lv_aload_n hx hb dL_law_50 rfl (lv_at hl 0 rfl) ?_
  refine r_iconst hx hb dL_law_51 ?_
  refine lv_iload hx hb dL_law_52 (lv_at hl 3 rfl) ?_
  refine r_imul hx hb dL_law_54 ?_
  refine k_SX (ls := ls) C0 hW hX hbG (As := [.ref b, .int (iI (2 * t))]) (c_L_cell l G w (b := b) (L := L) (xs := xs) hL (k := (2 * t)) (by omega) (by omega)) km_L_97 ks_L_cell kn_L kc_L_cell rfl hdS_L_cell ⟨Nat.le_of_ble_eq_true rfl, Nat.le_of_ble_eq_true rfl⟩ rfl hl.1 rfl (Nat.le_of_ble_eq_true rfl) ⟨Nat.le_of_ble_eq_true rfl, Nat.le_of_ble_eq_true rfl⟩ dL_law_55 (fun z1 w1 H1 locs1 rz1 hp1 hW => ?_)
  have hv1 := (⟨trivial, Eq.symm hp1⟩ : True ∧ _)
  clear hp1
  obtain ⟨hp1, hq1⟩ := hv1
  subst hq1
  have rz1a := rz1.1
  have rz1b := rz1.2
  refine lv_istore (lv' := [(5, .int (iI z1)), (0, .ref b), (1, .ref (ad G 0 0)), (2, .long kq), (4, .int (iI t))]) hx hb dL_law_58 hl (by decide) rfl (fun ls hl => ?_)
  refine lv_aload_n hx hb dL_law_60 rfl (lv_at hl 1 rfl) ?_
  refine r_iconst hx hb dL_law_61 ?_
  refine lv_iload hx hb dL_law_62 (lv_at hl 4 rfl) ?_
  refine r_imul hx hb dL_law_64 ?_
  refine r_iconst hx hb dL_law_65 ?_
  refine r_iadd hx hb dL_law_66 ?_
  refine k_SX (ls := ls) C0 hW hX hbG (As := [.ref b, .int (iI ((2 * t) + 1))]) (c_L_cell l G w (b := b) (L := L) (xs := xs) hL (k := ((2 * t) + 1)) (by omega) (by omega)) km_L_97 ks_L_cell kn_L kc_L_cell rfl hdS_L_cell ⟨Nat.le_of_ble_eq_true rfl, Nat.le_of_ble_eq_true rfl⟩ rfl hl.1 rfl (Nat.le_of_ble_eq_true rfl) ⟨Nat.le_of_ble_eq_true rfl, Nat.le_of_ble_eq_true rfl⟩ dL_law_67 (fun z2 w2 H1 locs1 rz2 hp2 hW => ?_)
  have hv2 := (⟨trivial, Eq.symm hp2⟩ : True ∧ _)
  clear hp2
  obtain ⟨hp2, hq2⟩ := hv2
  subst hq2
  have rz2a := rz2.1
  have rz2b := rz2.2
  refine lv_istore (lv' := [(6, .int (iI z2)), (5, .int (iI z1)), (0, .ref b), (1, .ref (ad G 0 0)), (2, .long kq), (4, .int (iI t))]) hx hb dL_law_70 hl (by decide) rfl (fun ls hl => ?_)
  refine lv_aload_n hx hb dL_law_72 rfl (lv_at hl 3 rfl) ?_
  refine k_SLl (ls := ls) C0 hW (As := [.ref (ad G 0 0)]) (c_L_told l G w (hO)) km_L_93 ks_L_told kn_L kc_L_told rfl hdS_L_told ⟨Nat.le_of_ble_eq_true rfl, Nat.le_of_ble_eq_true rfl⟩ rfl hl.1 rfl (Nat.le_of_ble_eq_true rfl) ⟨Nat.le_of_ble_eq_true rfl, Nat.le_of_ble_eq_true rfl⟩ dL_law_73 (fun z3 w3 H1 locs1 hp3 hW => ?_)
  have hv3 := cv_told hp3
  clear hp3
  obtain ⟨hp3, hq3⟩ := hv3
  subst hq3
  refine lv_lstore (lv' := [(7, .long z3), (6, .int (iI z2)), (5, .int (iI z1)), (0, .ref b), (1, .ref (ad G 0 0)), (2, .long kq), (4, .int (iI t))]) hx hb dL_law_76 hl (by decide) rfl (fun ls hl => ?_)
  refine lv_aload_n hx hb dL_law_78 rfl (lv_at hl 4 rfl) ?_
  refine r_bipush hx hb dL_law_79 (by decide) ?_
  refine k_VL (j := 0) (k0 := 0) (ls := ls) C0 hW (c_X5_count l G w (hO) 13 ⟨by omega, by omega⟩) km_L_12 ki_X5_count ke_X5_count kn_X5 kc_X5_count rfl hdV_X5_count ⟨Nat.le_of_ble_eq_true rfl, Nat.le_of_ble_eq_true rfl⟩ (show 0 < 11 ∧ 0 < bs 0 from ⟨by decide, by decide⟩) rfl rfl rfl hl.1 rfl (Nat.le_of_ble_eq_true rfl) ⟨Nat.le_of_ble_eq_true rfl, Nat.le_of_ble_eq_true rfl⟩ dL_law_81 (fun z4 w4 H1 locs1 rz4 hp4 hW => ?_)
  have hv4 := cv_13 hp4
  clear hp4
  obtain ⟨hp4, hq4⟩ := hv4
  subst hq4
  have rz4a := rz4.1
  have rz4b := rz4.2
  refine lv_istore (lv' := [(9, .int (iI z4)), (7, .long z3), (6, .int (iI z2)), (5, .int (iI z1)), (0, .ref b), (1, .ref (ad G 0 0)), (2, .long kq), (4, .int (iI t))]) hx hb dL_law_84 hl (by decide) rfl (fun ls hl => ?_)
  refine lv_aload_n hx hb dL_law_86 rfl (lv_at hl 5 rfl) ?_
  refine r_bipush hx hb dL_law_87 (by decide) ?_
  refine k_VL (j := 0) (k0 := 0) (ls := ls) C0 hW (c_X5_count l G w (hO) 6 ⟨by omega, by omega⟩) km_L_12 ki_X5_count ke_X5_count kn_X5 kc_X5_count rfl hdV_X5_count ⟨Nat.le_of_ble_eq_true rfl, Nat.le_of_ble_eq_true rfl⟩ (show 0 < 11 ∧ 0 < bs 0 from ⟨by decide, by decide⟩) rfl rfl rfl hl.1 rfl (Nat.le_of_ble_eq_true rfl) ⟨Nat.le_of_ble_eq_true rfl, Nat.le_of_ble_eq_true rfl⟩ dL_law_89 (fun z5 w5 H1 locs1 rz5 hp5 hW => ?_)
  have hv5 := cv_cnt hp5 rz5 (by omega)
  clear hp5
  obtain ⟨hp5, hq5⟩ := hv5
  subst hq5
  have rz5a := rz5.1
  have rz5b := rz5.2
  have hp5 : z5 = gN (w 1) 0 13 := hp5
  refine lv_istore (lv' := [(10, .int (iI z5)), (9, .int (iI z4)), (7, .long z3), (6, .int (iI z2)), (5, .int (iI z1)), (0, .ref b), (1, .ref (ad G 0 0)), (2, .long kq), (4, .int (iI t))]) hx hb dL_law_92 hl (by decide) rfl (fun ls hl => ?_)
  refine lv_aload_n hx hb dL_law_94 rfl (lv_at hl 6 rfl) ?_
  refine lv_iload hx hb dL_law_95 (lv_at hl 4 rfl) ?_
  refine lv_iload hx hb dL_law_97 (lv_at hl 3 rfl) ?_
  refine k_SL (ls := ls) C0 hW (As := [.ref (ad G 0 0), .int (iI z1), .int (iI z2)]) (c_L_act l G w (hO) z1 rz1 z2 rz2) km_L_101 ks_L_act kn_L kc_L_act rfl hdS_L_act ⟨Nat.le_of_ble_eq_true rfl, Nat.le_of_ble_eq_true rfl⟩ rfl hl.1 rfl (Nat.le_of_ble_eq_true rfl) ⟨Nat.le_of_ble_eq_true rfl, Nat.le_of_ble_eq_true rfl⟩ dL_law_99 (fun z6 w6 H1 locs1 rz6 hp6 hW => ?_)
  have rz6a := rz6.1
  have rz6b := rz6.2
  have sA := act_s hG.1 hG.2.1 hG.2.2.1 hG.2.2.2 rz6 hp6
  obtain ⟨a0, a1, a2, a3, hO⟩ : ∃ a0 a1 a2 a3 : Nat, okW w6 a0 a1 a2 a3 := by by_cases q : 0 ≤ z6; (exact ⟨_, _, _, _, (Gd_yes hG (act_i hI hG.2.2.1 _ _) sA q).1.1⟩); exact ⟨_, _, _, _, (Gd_no hG sA (by omega)).1.1⟩
  refine lv_istore (lv' := [(11, .int (iI z6)), (10, .int (iI z5)), (9, .int (iI z4)), (7, .long z3), (6, .int (iI z2)), (5, .int (iI z1)), (0, .ref b), (1, .ref (ad G 0 0)), (2, .long kq), (4, .int (iI t))]) hx hb dL_law_102 hl (by decide) rfl (fun ls hl => ?_)
  refine lv_aload_n hx hb dL_law_104 rfl (lv_at hl 7 rfl) ?_
  refine k_SLl (ls := ls) C0 hW (As := [.ref (ad G 0 0)]) (c_L_told l G w6 (hO)) km_L_93 ks_L_told kn_L kc_L_told rfl hdS_L_told ⟨Nat.le_of_ble_eq_true rfl, Nat.le_of_ble_eq_true rfl⟩ rfl hl.1 rfl (Nat.le_of_ble_eq_true rfl) ⟨Nat.le_of_ble_eq_true rfl, Nat.le_of_ble_eq_true rfl⟩ dL_law_105 (fun z7 w7 H1 locs1 hp7 hW => ?_)
  have hv7 := cv_told hp7
  clear hp7
  obtain ⟨hp7, hq7⟩ := hv7
  subst hq7
  refine lv_lstore (lv' := [(12, .long z7), (11, .int (iI z6)), (10, .int (iI z5)), (9, .int (iI z4)), (7, .long z3), (6, .int (iI z2)), (5, .int (iI z1)), (0, .ref b), (1, .ref (ad G 0 0)), (2, .long kq), (4, .int (iI t))]) hx hb dL_law_108 hl (by decide) rfl (fun ls hl => ?_)
  by_cases hz0 : 0 ≤ z6
  · obtain ⟨gY, y1, y2, y3, y4⟩ := Gd_yes hG (act_i hI hG.2.2.1 _ _) sA hz0
    exact law_B C0 hX hbG hL gY ht (by rw [y2]; exact hk) hp3 hp7 rz1 rz2 rz6 hI y3 (by rw [y2]; exact sA.1) hz0 (by rw [y2]; exact y1) (by rw [y4]; omega) hp5 ⟨by omega, by omega⟩ (by rw [y4, hp4]) (lv_sub hl [7, 8, 9, 10, 6, 5, 4, 3, 2, 1, 0] rfl) hW kk
  · obtain ⟨gY, -, y1, y2, y4⟩ := Gd_no hG sA (by omega)
    exact law_R C0 hX hbG hL gY ht (by rw [y2]; exact hk) (by rw [y1]; exact hp3) hp7 rz1 rz2 rz6 (by omega) ⟨by omega, by omega⟩ (by rw [y4, hp4]) (lv_sub hl [7, 8, 9, 10, 6, 5, 4, 3, 2, 1, 0] rfl) hW kk
