set_option maxHeartbeats 4000000 in
set_option maxRecDepth 100000 in
theorem law_plot {p : Program} {l : Launch} {e : Env} {s : State} {m : MethodId} {below : List Frame} {meth : Method} {c : Code} {H : Heap} {locs : List Loc} {Q : State → Prop} {G : gG} {w : gW} {b L : Nat} {xs : Nat → Int32} {ls : Array Slot} (C0 : cx p s m #[Value.ref b] meth c yL_law cL_law 4 ret) (hX : va_X b L xs s s.heap) (hbl : b < s.heap.size) (hG : G.2.2 = s.heap.size) (hL : L ≤ 1536) {i : Int} (hi : 0 ≤ i ∧ i + 3 ≤ L) (hl : lv_has ls 4 [(0, .ref b), (1, .ref (ad G 0 0)), (2, .ref (ad G 10 0)), (3, .int (iI i))]) (hW : wo G w s H locs) {b0 b1 b2 b3 : Nat} (hR : Rel w b0 b1 b2 b3)
    (kk : ∀ (w2 : gW) (H2 : Heap) (locs2 : List Loc), (∃ b0 b1 b2 b3 : Nat, Rel w2 b0 b1 b2 b3) → wo G w2 s H2 locs2 → W p l e room_1 s m #[Value.ref b] below meth c H2 locs2 146 16195 Q (F0 m 775 ls [])) : W p l e room_1 s m #[Value.ref b] below meth c H locs 146 16195 Q (F0 m 531 ls []) := by
  have hx := C0.hx
  have hb := C0.hb
  refine lv_aload_n hx hb dL_law_531 rfl (lv_at hl 1 rfl) ?_
  refine lwA C0 hX hbl hG hL hi hl hW (k := 1) ⟨by omega, by omega⟩ dL_law_532 dL_law_533 dL_law_534 dL_law_535 dL_law_536 ?_
  refine lwA C0 hX hbl hG hL hi hl hW (k := 2) ⟨by omega, by omega⟩ dL_law_537 dL_law_538 dL_law_539 dL_law_540 dL_law_541 ?_
  refine k_VL (j := 0) (k0 := 0) (ls := ls) C0 hW (c_X5_plot l G w hR.1 (sx xs (i + 1)) (sx xs (i + 2)) (sx_r _ _) (sx_r _ _)) km_L_85 ki_X5_plot ke_X5_plot kn_X5 kc_X5_plot rfl hdV_X5_plot ⟨Nat.le_of_ble_eq_true rfl, Nat.le_of_ble_eq_true rfl⟩ (show 0 < 11 ∧ 0 < bs 0 from ⟨by decide, by decide⟩) rfl rfl rfl hl.1 rfl (Nat.le_of_ble_eq_true rfl) ⟨Nat.le_of_ble_eq_true rfl, Nat.le_of_ble_eq_true rfl⟩ dL_law_542 (fun z1 w1 H1 locs1 rz1 hp1 hW1 => ?_)
  have e10 := e10_plot hR hp1
  refine lv_aload_n hx hb dL_law_545 rfl (lv_at hl 2 rfl) ?_
  refine lwA C0 hX hbl hG hL hi hl hW1 (k := 1) ⟨by omega, by omega⟩ dL_law_546 dL_law_547 dL_law_548 dL_law_549 dL_law_550 ?_
  refine lwA C0 hX hbl hG hL hi hl hW1 (k := 2) ⟨by omega, by omega⟩ dL_law_551 dL_law_552 dL_law_553 dL_law_554 dL_law_555 ?_
  refine k_VL (j := 10) (k0 := 0) (ls := ls) C0 hW1 (c_X6_plot l G w1 (sx xs (i + 1)) (sx xs (i + 2)) (sx_r _ _) (sx_r _ _) (mO_of (Rel_mO hR) e10)) km_L_88 ki_X6_plot ke_X6_plot kn_X6 kc_X6_plot rfl hdV_X6_plot ⟨Nat.le_of_ble_eq_true rfl, Nat.le_of_ble_eq_true rfl⟩ (show 10 < 11 ∧ 0 < bs 10 from ⟨by decide, by decide⟩) rfl rfl rfl hl.1 rfl (Nat.le_of_ble_eq_true rfl) ⟨Nat.le_of_ble_eq_true rfl, Nat.le_of_ble_eq_true rfl⟩ dL_law_556 (fun z2 w2 H2 locs2 rz2 hp2 hW2 => ?_)
  have f := st_plot hR hp1 hp2
  exact r_icmp_eq (tgt := 775) hx hb rz1 rz2 dL_law_559 (by decide) (fun _ => kk w2 H2 locs2 f.2 hW2) (fun h => absurd (inj_r rz1 rz2 f.1) h)
set_option maxHeartbeats 4000000 in
set_option maxRecDepth 100000 in
theorem law_row {p : Program} {l : Launch} {e : Env} {s : State} {m : MethodId} {below : List Frame} {meth : Method} {c : Code} {H : Heap} {locs : List Loc} {Q : State → Prop} {G : gG} {w : gW} {b L : Nat} {xs : Nat → Int32} {ls : Array Slot} (C0 : cx p s m #[Value.ref b] meth c yL_law cL_law 4 ret) (hX : va_X b L xs s s.heap) (hbl : b < s.heap.size) (hG : G.2.2 = s.heap.size) (hL : L ≤ 1536) {i : Int} (hi : 0 ≤ i ∧ i + 3 ≤ L) (hl : lv_has ls 4 [(0, .ref b), (1, .ref (ad G 0 0)), (2, .ref (ad G 10 0)), (3, .int (iI i))]) (hW : wo G w s H locs) {b0 b1 b2 b3 : Nat} (hR : Rel w b0 b1 b2 b3)
    (kk : ∀ (w2 : gW) (H2 : Heap) (locs2 : List Loc), (∃ b0 b1 b2 b3 : Nat, Rel w2 b0 b1 b2 b3) → wo G w2 s H2 locs2 → W p l e room_1 s m #[Value.ref b] below meth c H2 locs2 146 16195 Q (F0 m 775 ls [])) : W p l e room_1 s m #[Value.ref b] below meth c H locs 146 16195 Q (F0 m 564 ls []) := by
  have hx := C0.hx
  have hb := C0.hb
  refine lv_aload_n hx hb dL_law_564 rfl (lv_at hl 1 rfl) ?_
  refine lwA C0 hX hbl hG hL hi hl hW (k := 1) ⟨by omega, by omega⟩ dL_law_565 dL_law_566 dL_law_567 dL_law_568 dL_law_569 ?_
  refine lwA C0 hX hbl hG hL hi hl hW (k := 2) ⟨by omega, by omega⟩ dL_law_570 dL_law_571 dL_law_572 dL_law_573 dL_law_574 ?_
  refine k_VL (j := 0) (k0 := 0) (ls := ls) C0 hW (c_X5_row l G w hR.1 (sx xs (i + 1)) (sx xs (i + 2)) (sx_r _ _) (sx_r _ _)) km_L_89 ki_X5_row ke_X5_row kn_X5 kc_X5_row rfl hdV_X5_row ⟨Nat.le_of_ble_eq_true rfl, Nat.le_of_ble_eq_true rfl⟩ (show 0 < 11 ∧ 0 < bs 0 from ⟨by decide, by decide⟩) rfl rfl rfl hl.1 rfl (Nat.le_of_ble_eq_true rfl) ⟨Nat.le_of_ble_eq_true rfl, Nat.le_of_ble_eq_true rfl⟩ dL_law_575 (fun z1 w1 H1 locs1 rz1 hp1 hW1 => ?_)
  have e10 := e10_row hR hp1
  refine lv_aload_n hx hb dL_law_578 rfl (lv_at hl 2 rfl) ?_
  refine lwA C0 hX hbl hG hL hi hl hW1 (k := 1) ⟨by omega, by omega⟩ dL_law_579 dL_law_580 dL_law_581 dL_law_582 dL_law_583 ?_
  refine lwA C0 hX hbl hG hL hi hl hW1 (k := 2) ⟨by omega, by omega⟩ dL_law_584 dL_law_585 dL_law_586 dL_law_587 dL_law_588 ?_
  refine k_VL (j := 10) (k0 := 0) (ls := ls) C0 hW1 (c_X6_row l G w1 (sx xs (i + 1)) (sx xs (i + 2)) (sx_r _ _) (sx_r _ _) (mO_of (Rel_mO hR) e10)) km_L_92 ki_X6_row ke_X6_row kn_X6 kc_X6_row rfl hdV_X6_row ⟨Nat.le_of_ble_eq_true rfl, Nat.le_of_ble_eq_true rfl⟩ (show 10 < 11 ∧ 0 < bs 10 from ⟨by decide, by decide⟩) rfl rfl rfl hl.1 rfl (Nat.le_of_ble_eq_true rfl) ⟨Nat.le_of_ble_eq_true rfl, Nat.le_of_ble_eq_true rfl⟩ dL_law_589 (fun z2 w2 H2 locs2 rz2 hp2 hW2 => ?_)
  have f := st_row hR hp1 hp2
  exact r_icmp_eq (tgt := 775) hx hb rz1 rz2 dL_law_592 (by decide) (fun _ => kk w2 H2 locs2 f.2 hW2) (fun h => absurd (inj_r rz1 rz2 f.1) h)
set_option maxHeartbeats 4000000 in
set_option maxRecDepth 100000 in
theorem law_driest {p : Program} {l : Launch} {e : Env} {s : State} {m : MethodId} {below : List Frame} {meth : Method} {c : Code} {H : Heap} {locs : List Loc} {Q : State → Prop} {G : gG} {w : gW} {b L : Nat} {xs : Nat → Int32} {ls : Array Slot} (C0 : cx p s m #[Value.ref b] meth c yL_law cL_law 4 ret) (hX : va_X b L xs s s.heap) (hbl : b < s.heap.size) (hG : G.2.2 = s.heap.size) (hL : L ≤ 1536) {i : Int} (hi : 0 ≤ i ∧ i + 3 ≤ L) (hl : lv_has ls 4 [(0, .ref b), (1, .ref (ad G 0 0)), (2, .ref (ad G 10 0)), (3, .int (iI i))]) (hW : wo G w s H locs) {b0 b1 b2 b3 : Nat} (hR : Rel w b0 b1 b2 b3)
    (kk : ∀ (w2 : gW) (H2 : Heap) (locs2 : List Loc), (∃ b0 b1 b2 b3 : Nat, Rel w2 b0 b1 b2 b3) → wo G w2 s H2 locs2 → W p l e room_1 s m #[Value.ref b] below meth c H2 locs2 146 16195 Q (F0 m 775 ls [])) : W p l e room_1 s m #[Value.ref b] below meth c H locs 146 16195 Q (F0 m 597 ls []) := by
  have hx := C0.hx
  have hb := C0.hb
  refine lv_aload_n hx hb dL_law_597 rfl (lv_at hl 1 rfl) ?_
  refine lwA C0 hX hbl hG hL hi hl hW (k := 1) ⟨by omega, by omega⟩ dL_law_598 dL_law_599 dL_law_600 dL_law_601 dL_law_602 ?_
  refine lwA C0 hX hbl hG hL hi hl hW (k := 2) ⟨by omega, by omega⟩ dL_law_603 dL_law_604 dL_law_605 dL_law_606 dL_law_607 ?_
  refine k_VL (j := 0) (k0 := 0) (ls := ls) C0 hW (c_X5_driest l G w hR.1 (sx xs (i + 1)) (sx xs (i + 2)) (sx_r _ _) (sx_r _ _)) km_L_93 ki_X5_driest ke_X5_driest kn_X5 kc_X5_driest rfl hdV_X5_driest ⟨Nat.le_of_ble_eq_true rfl, Nat.le_of_ble_eq_true rfl⟩ (show 0 < 11 ∧ 0 < bs 0 from ⟨by decide, by decide⟩) rfl rfl rfl hl.1 rfl (Nat.le_of_ble_eq_true rfl) ⟨Nat.le_of_ble_eq_true rfl, Nat.le_of_ble_eq_true rfl⟩ dL_law_608 (fun z1 w1 H1 locs1 rz1 hp1 hW1 => ?_)
  have e10 := e10_driest hR hp1
  refine lv_aload_n hx hb dL_law_611 rfl (lv_at hl 2 rfl) ?_
  refine lwA C0 hX hbl hG hL hi hl hW1 (k := 1) ⟨by omega, by omega⟩ dL_law_612 dL_law_613 dL_law_614 dL_law_615 dL_law_616 ?_
  refine lwA C0 hX hbl hG hL hi hl hW1 (k := 2) ⟨by omega, by omega⟩ dL_law_617 dL_law_618 dL_law_619 dL_law_620 dL_law_621 ?_
  refine k_VL (j := 10) (k0 := 0) (ls := ls) C0 hW1 (c_X6_driest l G w1 (sx xs (i + 1)) (sx xs (i + 2)) (sx_r _ _) (sx_r _ _) (mO_of (Rel_mO hR) e10)) km_L_96 ki_X6_driest ke_X6_driest kn_X6 kc_X6_driest rfl hdV_X6_driest ⟨Nat.le_of_ble_eq_true rfl, Nat.le_of_ble_eq_true rfl⟩ (show 10 < 11 ∧ 0 < bs 10 from ⟨by decide, by decide⟩) rfl rfl rfl hl.1 rfl (Nat.le_of_ble_eq_true rfl) ⟨Nat.le_of_ble_eq_true rfl, Nat.le_of_ble_eq_true rfl⟩ dL_law_622 (fun z2 w2 H2 locs2 rz2 hp2 hW2 => ?_)
  have f := st_driest hR hp1 hp2
  exact r_icmp_eq (tgt := 775) hx hb rz1 rz2 dL_law_625 (by decide) (fun _ => kk w2 H2 locs2 f.2 hW2) (fun h => absurd (inj_r rz1 rz2 f.1) h)
set_option maxHeartbeats 4000000 in
set_option maxRecDepth 100000 in
theorem law_why {p : Program} {l : Launch} {e : Env} {s : State} {m : MethodId} {below : List Frame} {meth : Method} {c : Code} {H : Heap} {locs : List Loc} {Q : State → Prop} {G : gG} {w : gW} {b L : Nat} {xs : Nat → Int32} {ls : Array Slot} (C0 : cx p s m #[Value.ref b] meth c yL_law cL_law 4 ret) (hX : va_X b L xs s s.heap) (hbl : b < s.heap.size) (hG : G.2.2 = s.heap.size) (hL : L ≤ 1536) {i : Int} (hi : 0 ≤ i ∧ i + 3 ≤ L) (hl : lv_has ls 4 [(0, .ref b), (1, .ref (ad G 0 0)), (2, .ref (ad G 10 0)), (3, .int (iI i))]) (hW : wo G w s H locs) {b0 b1 b2 b3 : Nat} (hR : Rel w b0 b1 b2 b3)
    (kk : ∀ (w2 : gW) (H2 : Heap) (locs2 : List Loc), (∃ b0 b1 b2 b3 : Nat, Rel w2 b0 b1 b2 b3) → wo G w2 s H2 locs2 → W p l e room_1 s m #[Value.ref b] below meth c H2 locs2 146 16195 Q (F0 m 775 ls [])) : W p l e room_1 s m #[Value.ref b] below meth c H locs 146 16195 Q (F0 m 630 ls []) := by
  have hx := C0.hx
  have hb := C0.hb
  refine lv_aload_n hx hb dL_law_630 rfl (lv_at hl 1 rfl) ?_
  refine lwA C0 hX hbl hG hL hi hl hW (k := 1) ⟨by omega, by omega⟩ dL_law_631 dL_law_632 dL_law_633 dL_law_634 dL_law_635 ?_
  refine lwA C0 hX hbl hG hL hi hl hW (k := 2) ⟨by omega, by omega⟩ dL_law_636 dL_law_637 dL_law_638 dL_law_639 dL_law_640 ?_
  refine k_VL (j := 0) (k0 := 0) (ls := ls) C0 hW (c_X5_why l G w hR.1 (sx xs (i + 1)) (sx xs (i + 2)) (sx_r _ _) (sx_r _ _)) km_L_97 ki_X5_why ke_X5_why kn_X5 kc_X5_why rfl hdV_X5_why ⟨Nat.le_of_ble_eq_true rfl, Nat.le_of_ble_eq_true rfl⟩ (show 0 < 11 ∧ 0 < bs 0 from ⟨by decide, by decide⟩) rfl rfl rfl hl.1 rfl (Nat.le_of_ble_eq_true rfl) ⟨Nat.le_of_ble_eq_true rfl, Nat.le_of_ble_eq_true rfl⟩ dL_law_641 (fun z1 w1 H1 locs1 rz1 hp1 hW1 => ?_)
  have e10 := e10_why hR hp1
  refine lv_aload_n hx hb dL_law_644 rfl (lv_at hl 2 rfl) ?_
  refine lwA C0 hX hbl hG hL hi hl hW1 (k := 1) ⟨by omega, by omega⟩ dL_law_645 dL_law_646 dL_law_647 dL_law_648 dL_law_649 ?_
  refine lwA C0 hX hbl hG hL hi hl hW1 (k := 2) ⟨by omega, by omega⟩ dL_law_650 dL_law_651 dL_law_652 dL_law_653 dL_law_654 ?_
  refine k_VL (j := 10) (k0 := 0) (ls := ls) C0 hW1 (c_X6_why l G w1 (sx xs (i + 1)) (sx xs (i + 2)) (sx_r _ _) (sx_r _ _) (mO_of (Rel_mO hR) e10)) km_L_100 ki_X6_why ke_X6_why kn_X6 kc_X6_why rfl hdV_X6_why ⟨Nat.le_of_ble_eq_true rfl, Nat.le_of_ble_eq_true rfl⟩ (show 10 < 11 ∧ 0 < bs 10 from ⟨by decide, by decide⟩) rfl rfl rfl hl.1 rfl (Nat.le_of_ble_eq_true rfl) ⟨Nat.le_of_ble_eq_true rfl, Nat.le_of_ble_eq_true rfl⟩ dL_law_655 (fun z2 w2 H2 locs2 rz2 hp2 hW2 => ?_)
  have f := st_why hR hp1 hp2
  exact r_icmp_eq (tgt := 775) hx hb rz1 rz2 dL_law_658 (by decide) (fun _ => kk w2 H2 locs2 f.2 hW2) (fun h => absurd (inj_r rz1 rz2 f.1) h)
set_option maxHeartbeats 4000000 in
set_option maxRecDepth 100000 in
theorem law_dispute {p : Program} {l : Launch} {e : Env} {s : State} {m : MethodId} {below : List Frame} {meth : Method} {c : Code} {H : Heap} {locs : List Loc} {Q : State → Prop} {G : gG} {w : gW} {b L : Nat} {xs : Nat → Int32} {ls : Array Slot} (C0 : cx p s m #[Value.ref b] meth c yL_law cL_law 4 ret) (hX : va_X b L xs s s.heap) (hbl : b < s.heap.size) (hG : G.2.2 = s.heap.size) (hL : L ≤ 1536) {i : Int} (hi : 0 ≤ i ∧ i + 3 ≤ L) (hl : lv_has ls 4 [(0, .ref b), (1, .ref (ad G 0 0)), (2, .ref (ad G 10 0)), (3, .int (iI i))]) (hW : wo G w s H locs) {b0 b1 b2 b3 : Nat} (hR : Rel w b0 b1 b2 b3)
    (kk : ∀ (w2 : gW) (H2 : Heap) (locs2 : List Loc), (∃ b0 b1 b2 b3 : Nat, Rel w2 b0 b1 b2 b3) → wo G w2 s H2 locs2 → W p l e room_1 s m #[Value.ref b] below meth c H2 locs2 146 16195 Q (F0 m 775 ls [])) : W p l e room_1 s m #[Value.ref b] below meth c H locs 146 16195 Q (F0 m 663 ls []) := by
  have hx := C0.hx
  have hb := C0.hb
  refine lv_aload_n hx hb dL_law_663 rfl (lv_at hl 1 rfl) ?_
  refine lwA C0 hX hbl hG hL hi hl hW (k := 1) ⟨by omega, by omega⟩ dL_law_664 dL_law_665 dL_law_666 dL_law_667 dL_law_668 ?_
  refine lwA C0 hX hbl hG hL hi hl hW (k := 2) ⟨by omega, by omega⟩ dL_law_669 dL_law_670 dL_law_671 dL_law_672 dL_law_673 ?_
  refine k_VL (j := 0) (k0 := 0) (ls := ls) C0 hW (c_X5_dispute l G w hR.1 (sx xs (i + 1)) (sx xs (i + 2)) (sx_r _ _) (sx_r _ _)) km_L_101 ki_X5_dispute ke_X5_dispute kn_X5 kc_X5_dispute rfl hdV_X5_dispute ⟨Nat.le_of_ble_eq_true rfl, Nat.le_of_ble_eq_true rfl⟩ (show 0 < 11 ∧ 0 < bs 0 from ⟨by decide, by decide⟩) rfl rfl rfl hl.1 rfl (Nat.le_of_ble_eq_true rfl) ⟨Nat.le_of_ble_eq_true rfl, Nat.le_of_ble_eq_true rfl⟩ dL_law_674 (fun z1 w1 H1 locs1 rz1 hp1 hW1 => ?_)
  have e10 := e10_dispute hR hp1
  refine lv_aload_n hx hb dL_law_677 rfl (lv_at hl 2 rfl) ?_
  refine lwA C0 hX hbl hG hL hi hl hW1 (k := 1) ⟨by omega, by omega⟩ dL_law_678 dL_law_679 dL_law_680 dL_law_681 dL_law_682 ?_
  refine lwA C0 hX hbl hG hL hi hl hW1 (k := 2) ⟨by omega, by omega⟩ dL_law_683 dL_law_684 dL_law_685 dL_law_686 dL_law_687 ?_
  refine k_VL (j := 10) (k0 := 0) (ls := ls) C0 hW1 (c_X6_dispute l G w1 (sx xs (i + 1)) (sx xs (i + 2)) (sx_r _ _) (sx_r _ _) (mO_of (Rel_mO hR) e10)) km_L_104 ki_X6_dispute ke_X6_dispute kn_X6 kc_X6_dispute rfl hdV_X6_dispute ⟨Nat.le_of_ble_eq_true rfl, Nat.le_of_ble_eq_true rfl⟩ (show 10 < 11 ∧ 0 < bs 10 from ⟨by decide, by decide⟩) rfl rfl rfl hl.1 rfl (Nat.le_of_ble_eq_true rfl) ⟨Nat.le_of_ble_eq_true rfl, Nat.le_of_ble_eq_true rfl⟩ dL_law_688 (fun z2 w2 H2 locs2 rz2 hp2 hW2 => ?_)
  have f := st_dispute hR hp1 hp2
  exact r_icmp_eq (tgt := 775) hx hb rz1 rz2 dL_law_691 (by decide) (fun _ => kk w2 H2 locs2 f.2 hW2) (fun h => absurd (inj_r rz1 rz2 f.1) h)
set_option maxHeartbeats 4000000 in
set_option maxRecDepth 100000 in
theorem law_cart {p : Program} {l : Launch} {e : Env} {s : State} {m : MethodId} {below : List Frame} {meth : Method} {c : Code} {H : Heap} {locs : List Loc} {Q : State → Prop} {G : gG} {w : gW} {b L : Nat} {xs : Nat → Int32} {ls : Array Slot} (C0 : cx p s m #[Value.ref b] meth c yL_law cL_law 4 ret) (hX : va_X b L xs s s.heap) (hbl : b < s.heap.size) (hG : G.2.2 = s.heap.size) (hL : L ≤ 1536) {i : Int} (hi : 0 ≤ i ∧ i + 3 ≤ L) (hl : lv_has ls 4 [(0, .ref b), (1, .ref (ad G 0 0)), (2, .ref (ad G 10 0)), (3, .int (iI i))]) (hW : wo G w s H locs) {b0 b1 b2 b3 : Nat} (hR : Rel w b0 b1 b2 b3)
    (kk : ∀ (w2 : gW) (H2 : Heap) (locs2 : List Loc), (∃ b0 b1 b2 b3 : Nat, Rel w2 b0 b1 b2 b3) → wo G w2 s H2 locs2 → W p l e room_1 s m #[Value.ref b] below meth c H2 locs2 146 16195 Q (F0 m 775 ls [])) : W p l e room_1 s m #[Value.ref b] below meth c H locs 146 16195 Q (F0 m 696 ls []) := by
  have hx := C0.hx
  have hb := C0.hb
  refine lv_aload_n hx hb dL_law_696 rfl (lv_at hl 1 rfl) ?_
  refine lwA C0 hX hbl hG hL hi hl hW (k := 1) ⟨by omega, by omega⟩ dL_law_697 dL_law_698 dL_law_699 dL_law_700 dL_law_701 ?_
  refine k_VL (j := 0) (k0 := 0) (ls := ls) C0 hW (c_X5_cart l G w hR.1 (sx xs (i + 1)) (sx_r _ _)) km_L_105 ki_X5_cart ke_X5_cart kn_X5 kc_X5_cart rfl hdV_X5_cart ⟨Nat.le_of_ble_eq_true rfl, Nat.le_of_ble_eq_true rfl⟩ (show 0 < 11 ∧ 0 < bs 0 from ⟨by decide, by decide⟩) rfl rfl rfl hl.1 rfl (Nat.le_of_ble_eq_true rfl) ⟨Nat.le_of_ble_eq_true rfl, Nat.le_of_ble_eq_true rfl⟩ dL_law_702 (fun z1 w1 H1 locs1 rz1 hp1 hW1 => ?_)
  have e10 := e10_cart hR hp1
  refine lv_aload_n hx hb dL_law_705 rfl (lv_at hl 2 rfl) ?_
  refine lwA C0 hX hbl hG hL hi hl hW1 (k := 1) ⟨by omega, by omega⟩ dL_law_706 dL_law_707 dL_law_708 dL_law_709 dL_law_710 ?_
  refine k_VL (j := 10) (k0 := 0) (ls := ls) C0 hW1 (c_X6_cart l G w1 (sx xs (i + 1)) (sx_r _ _) (mO_of (Rel_mO hR) e10)) km_L_108 ki_X6_cart ke_X6_cart kn_X6 kc_X6_cart rfl hdV_X6_cart ⟨Nat.le_of_ble_eq_true rfl, Nat.le_of_ble_eq_true rfl⟩ (show 10 < 11 ∧ 0 < bs 10 from ⟨by decide, by decide⟩) rfl rfl rfl hl.1 rfl (Nat.le_of_ble_eq_true rfl) ⟨Nat.le_of_ble_eq_true rfl, Nat.le_of_ble_eq_true rfl⟩ dL_law_711 (fun z2 w2 H2 locs2 rz2 hp2 hW2 => ?_)
  have f := st_cart hR hp1 hp2
  exact r_icmp_eq (tgt := 775) hx hb rz1 rz2 dL_law_714 (by decide) (fun _ => kk w2 H2 locs2 f.2 hW2) (fun h => absurd (inj_r rz1 rz2 f.1) h)
set_option maxHeartbeats 4000000 in
set_option maxRecDepth 100000 in
theorem law_would {p : Program} {l : Launch} {e : Env} {s : State} {m : MethodId} {below : List Frame} {meth : Method} {c : Code} {H : Heap} {locs : List Loc} {Q : State → Prop} {G : gG} {w : gW} {b L : Nat} {xs : Nat → Int32} {ls : Array Slot} (C0 : cx p s m #[Value.ref b] meth c yL_law cL_law 4 ret) (hX : va_X b L xs s s.heap) (hbl : b < s.heap.size) (hG : G.2.2 = s.heap.size) (hL : L ≤ 1536) {i : Int} (hi : 0 ≤ i ∧ i + 3 ≤ L) (hl : lv_has ls 4 [(0, .ref b), (1, .ref (ad G 0 0)), (2, .ref (ad G 10 0)), (3, .int (iI i))]) (hW : wo G w s H locs) {b0 b1 b2 b3 : Nat} (hR : Rel w b0 b1 b2 b3)
    (kk : ∀ (w2 : gW) (H2 : Heap) (locs2 : List Loc), (∃ b0 b1 b2 b3 : Nat, Rel w2 b0 b1 b2 b3) → wo G w2 s H2 locs2 → W p l e room_1 s m #[Value.ref b] below meth c H2 locs2 146 16195 Q (F0 m 775 ls [])) : W p l e room_1 s m #[Value.ref b] below meth c H locs 146 16195 Q (F0 m 719 ls []) := by
  have hx := C0.hx
  have hb := C0.hb
  refine lv_aload_n hx hb dL_law_719 rfl (lv_at hl 1 rfl) ?_
  refine lwA C0 hX hbl hG hL hi hl hW (k := 1) ⟨by omega, by omega⟩ dL_law_720 dL_law_721 dL_law_722 dL_law_723 dL_law_724 ?_
  refine lwA C0 hX hbl hG hL hi hl hW (k := 2) ⟨by omega, by omega⟩ dL_law_725 dL_law_726 dL_law_727 dL_law_728 dL_law_729 ?_
  refine k_VL (j := 0) (k0 := 0) (ls := ls) C0 hW (c_X5_would l G w hR.1 (sx xs (i + 1)) (sx xs (i + 2)) (sx_r _ _) (sx_r _ _)) km_L_109 ki_X5_would ke_X5_would kn_X5 kc_X5_would rfl hdV_X5_would ⟨Nat.le_of_ble_eq_true rfl, Nat.le_of_ble_eq_true rfl⟩ (show 0 < 11 ∧ 0 < bs 0 from ⟨by decide, by decide⟩) rfl rfl rfl hl.1 rfl (Nat.le_of_ble_eq_true rfl) ⟨Nat.le_of_ble_eq_true rfl, Nat.le_of_ble_eq_true rfl⟩ dL_law_730 (fun z1 w1 H1 locs1 rz1 hp1 hW1 => ?_)
  have e10 := e10_would hR hp1
  refine lv_aload_n hx hb dL_law_733 rfl (lv_at hl 2 rfl) ?_
  refine lwA C0 hX hbl hG hL hi hl hW1 (k := 1) ⟨by omega, by omega⟩ dL_law_734 dL_law_735 dL_law_736 dL_law_737 dL_law_738 ?_
  refine lwA C0 hX hbl hG hL hi hl hW1 (k := 2) ⟨by omega, by omega⟩ dL_law_739 dL_law_740 dL_law_741 dL_law_742 dL_law_743 ?_
  refine k_VL (j := 10) (k0 := 0) (ls := ls) C0 hW1 (c_X6_would l G w1 (sx xs (i + 1)) (sx xs (i + 2)) (sx_r _ _) (sx_r _ _) (mO_of (Rel_mO hR) e10)) km_L_112 ki_X6_would ke_X6_would kn_X6 kc_X6_would rfl hdV_X6_would ⟨Nat.le_of_ble_eq_true rfl, Nat.le_of_ble_eq_true rfl⟩ (show 10 < 11 ∧ 0 < bs 10 from ⟨by decide, by decide⟩) rfl rfl rfl hl.1 rfl (Nat.le_of_ble_eq_true rfl) ⟨Nat.le_of_ble_eq_true rfl, Nat.le_of_ble_eq_true rfl⟩ dL_law_744 (fun z2 w2 H2 locs2 rz2 hp2 hW2 => ?_)
  have f := st_would hR hp1 hp2
  exact r_icmp_eq (tgt := 775) hx hb rz1 rz2 dL_law_747 (by decide) (fun _ => kk w2 H2 locs2 f.2 hW2) (fun h => absurd (inj_r rz1 rz2 f.1) h)
set_option maxHeartbeats 4000000 in
set_option maxRecDepth 100000 in
theorem law_count {p : Program} {l : Launch} {e : Env} {s : State} {m : MethodId} {below : List Frame} {meth : Method} {c : Code} {H : Heap} {locs : List Loc} {Q : State → Prop} {G : gG} {w : gW} {b L : Nat} {xs : Nat → Int32} {ls : Array Slot} (C0 : cx p s m #[Value.ref b] meth c yL_law cL_law 4 ret) (hX : va_X b L xs s s.heap) (hbl : b < s.heap.size) (hG : G.2.2 = s.heap.size) (hL : L ≤ 1536) {i : Int} (hi : 0 ≤ i ∧ i + 3 ≤ L) (hl : lv_has ls 4 [(0, .ref b), (1, .ref (ad G 0 0)), (2, .ref (ad G 10 0)), (3, .int (iI i))]) (hW : wo G w s H locs) {b0 b1 b2 b3 : Nat} (hR : Rel w b0 b1 b2 b3)
    (kk : ∀ (w2 : gW) (H2 : Heap) (locs2 : List Loc), (∃ b0 b1 b2 b3 : Nat, Rel w2 b0 b1 b2 b3) → wo G w2 s H2 locs2 → W p l e room_1 s m #[Value.ref b] below meth c H2 locs2 146 16195 Q (F0 m 775 ls [])) : W p l e room_1 s m #[Value.ref b] below meth c H locs 146 16195 Q (F0 m 752 ls []) := by
  have hx := C0.hx
  have hb := C0.hb
  refine lv_aload_n hx hb dL_law_752 rfl (lv_at hl 1 rfl) ?_
  refine lwA C0 hX hbl hG hL hi hl hW (k := 1) ⟨by omega, by omega⟩ dL_law_753 dL_law_754 dL_law_755 dL_law_756 dL_law_757 ?_
  refine k_VL (j := 0) (k0 := 0) (ls := ls) C0 hW (c_X5_count l G w hR.1 (sx xs (i + 1)) (sx_r _ _)) km_L_113 ki_X5_count ke_X5_count kn_X5 kc_X5_count rfl hdV_X5_count ⟨Nat.le_of_ble_eq_true rfl, Nat.le_of_ble_eq_true rfl⟩ (show 0 < 11 ∧ 0 < bs 0 from ⟨by decide, by decide⟩) rfl rfl rfl hl.1 rfl (Nat.le_of_ble_eq_true rfl) ⟨Nat.le_of_ble_eq_true rfl, Nat.le_of_ble_eq_true rfl⟩ dL_law_758 (fun z1 w1 H1 locs1 rz1 hp1 hW1 => ?_)
  have e10 := e10_count hR hp1
  refine lv_aload_n hx hb dL_law_761 rfl (lv_at hl 2 rfl) ?_
  refine lwA C0 hX hbl hG hL hi hl hW1 (k := 1) ⟨by omega, by omega⟩ dL_law_762 dL_law_763 dL_law_764 dL_law_765 dL_law_766 ?_
  refine k_VL (j := 10) (k0 := 0) (ls := ls) C0 hW1 (c_X6_count l G w1 (sx xs (i + 1)) (sx_r _ _) (mO_of (Rel_mO hR) e10)) km_L_116 ki_X6_count ke_X6_count kn_X6 kc_X6_count rfl hdV_X6_count ⟨Nat.le_of_ble_eq_true rfl, Nat.le_of_ble_eq_true rfl⟩ (show 10 < 11 ∧ 0 < bs 10 from ⟨by decide, by decide⟩) rfl rfl rfl hl.1 rfl (Nat.le_of_ble_eq_true rfl) ⟨Nat.le_of_ble_eq_true rfl, Nat.le_of_ble_eq_true rfl⟩ dL_law_767 (fun z2 w2 H2 locs2 rz2 hp2 hW2 => ?_)
  have f := st_count hR hp1 hp2
  exact r_icmp_eq (tgt := 775) hx hb rz1 rz2 dL_law_770 (by decide) (fun _ => kk w2 H2 locs2 f.2 hW2) (fun h => absurd (inj_r rz1 rz2 f.1) h)
