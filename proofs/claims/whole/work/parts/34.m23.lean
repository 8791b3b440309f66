/-- X6_passes: its end -/
def po_X6_passes (w : gW) (v : Int) : Int → gW → Prop := fun z w1 => z = psN ((w 10).1 1) v ∧ w1 = up w 10 (sF (w 10) 1 (psA ((w 10).1 1) v))
theorem hdV_X6_passes : yX6_passes.cls = RX6 ∧ yX6_passes.cls ≠ "java/lang/invoke/MethodHandle" ∧ yX6_passes.cls ≠ "java/lang/invoke/VarHandle" ∧ (parseMethodDescriptor yX6_passes.desc).map (fun d => d.parameters.length) = some 1 := by decide +kernel
set_option maxHeartbeats 4000000 in
set_option maxRecDepth 100000 in
theorem c_X6_passes (l : Launch) (G : gG) (w : gW) (v : Int) (rv : inR v) (hwA : wA ((w 10).1 1)) : mI l G yX6_passes (wU yX6_passes cX6_passes 3 (some .int)) (rmL 3 70) [.ref (ad G 10 0), .int (iI v)] w (po_X6_passes w v) := by
  refine mI_of (by decide +kernel) (Nat.le_of_ble_eq_true rfl) (fun p e s m args below meth c ls C0 hW hl => ?_)
  have hl : lv_has ls 3 [(0, .ref (ad G 10 0)), (1, .int (iI v))] := hl
  have hx := C0.hx
  have hb := C0.hb
  obtain ⟨hv1, hv2, hv3, hv4⟩ := id hwA
  refine lv_aload_n hx hb dX6_passes_0 rfl (lv_at hl 0 rfl) ?_
  refine lv_iload_n hx hb dX6_passes_1 rfl (lv_at hl 1 rfl) ?_
  refine k_Vv (j := 10) (k0 := 0) C0 hW (c_X6_weathers l G w v rv (by first | omega | (simp (decide := true) only [id, up_s, gA_s, gA_sn, gN_sF, gA_sS, gN_sS, sA_st, sF_sF, sF_sS, sS_sS, arr_s, arr_n, arr_S, gA_aI, if_true, if_false, true_and, and_true, false_and, and_false]; omega)) (by exact hwA.2.1)) km_X6_64 ki_X6_weathers ke_X6_weathers kn_X6 kc_X6_weathers rfl hdV_X6_weathers ⟨by decide, by decide⟩ (show 10 < 11 ∧ 0 < bs 10 from ⟨by decide, by decide⟩) rfl rfl rfl hl.1 rfl (Nat.le_of_ble_eq_true rfl) dX6_passes_2 (fun w1 H1 locs1 hp1 hW => ?_)
  have hw1 : w1 = _ := hp1
  refine lv_aload_n hx hb dX6_passes_5 rfl (lv_at hl 0 rfl) ?_
  refine r_iconst hx hb dX6_passes_6 ?_
  refine k_Vi (j := 10) (k0 := 0) C0 hW (c_X6_serves l G w1 0 ⟨by omega, by omega⟩ (by omega) (by simp (decide := true) only [hw1, up_s, gA_s, gA_sn, gN_sF, gA_sS, gN_sS, sA_st, sF_sF, sF_sS, sS_sS, arr_s, arr_n, arr_S, gA_aI, if_true, if_false, true_and, and_true, false_and, and_false]; exact wA_wth _ _ hwA)) km_X6_67 ki_X6_serves ke_X6_serves kn_X6 kc_X6_serves rfl hdV_X6_serves ⟨by decide, by decide⟩ (show 10 < 11 ∧ 0 < bs 10 from ⟨by decide, by decide⟩) rfl rfl rfl hl.1 rfl (Nat.le_of_ble_eq_true rfl) dX6_passes_7 (fun z2 w2 H1 locs1 rz2 hp2 hW => ?_)
  obtain ⟨hp2, hw2⟩ := hp2
  have rz2a := rz2.1
  have rz2b := rz2.2
  refine lv_istore_n (lv' := [(2, .int (iI z2)), (0, .ref (ad G 10 0)), (1, .int (iI v))]) hx hb dX6_passes_10 rfl hl (by decide) rfl (fun ls hl => ?_)
  refine lv_iload_n hx hb dX6_passes_11 rfl (lv_at hl 0 rfl) ?_
  refine lv_aload_n hx hb dX6_passes_12 rfl (lv_at hl 1 rfl) ?_
  refine r_iconst hx hb dX6_passes_13 ?_
  refine k_Vi (j := 10) (k0 := 0) C0 hW (c_X6_serves l G w2 1 ⟨by omega, by omega⟩ (by omega) (by simp (decide := true) only [hw2, hw1, up_s, gA_s, gA_sn, gN_sF, gA_sS, gN_sS, sA_st, sF_sF, sF_sS, sS_sS, arr_s, arr_n, arr_S, gA_aI, if_true, if_false, true_and, and_true, false_and, and_false]; exact wA_srv (wA_wth _ _ hwA) ⟨by decide, by decide⟩)) km_X6_67 ki_X6_serves ke_X6_serves kn_X6 kc_X6_serves rfl hdV_X6_serves ⟨by decide, by decide⟩ (show 10 < 11 ∧ 0 < bs 10 from ⟨by decide, by decide⟩) rfl rfl rfl hl.1 rfl (Nat.le_of_ble_eq_true rfl) dX6_passes_14 (fun z3 w3 H1 locs1 rz3 hp3 hW => ?_)
  obtain ⟨hp3, hw3⟩ := hp3
  have rz3a := rz3.1
  have rz3b := rz3.2
  refine r_iadd hx hb dX6_passes_17 ?_
  refine lv_istore_n (lv' := [(2, .int (iI (z2 + z3))), (0, .ref (ad G 10 0)), (1, .int (iI v))]) hx hb dX6_passes_18 rfl hl (by decide) rfl (fun ls hl => ?_)
  have hz9 : z2 + z3 = psN ((w 10).1 1) v := by have q1 := hp2; have q2 := hp3; simp (decide := true) only [hw3, hw2, hw1, up_s, gA_s, gA_sn, gN_sF, gA_sS, gN_sS, sA_st, sF_sF, sF_sS, sS_sS, arr_s, arr_n, arr_S, gA_aI, if_true, if_false, true_and, and_true, false_and, and_false] at q1 q2; unfold psN; omega
  have hpl := psN_le ((w 10).1 1) v hwA
  refine lv_aload_n hx hb dX6_passes_19 rfl (lv_at hl 1 rfl) ?_
  refine r_gR C0 hW (show 10 < 11 ∧ 0 < bs 10 from ⟨by decide, by decide⟩) rfl rfl hiX6 (k := 1) (by decide) kf_X6_7 rfl rfl rfl dX6_passes_20 ?_
  refine r_iconst hx hb dX6_passes_23 ?_
  refine lv_dup2_11 hx hb dX6_passes_24 rfl rfl ?_
  refine r_ild C0 hW (show 10 < 11 ∧ 1 < bs 10 from ⟨by decide, by decide⟩) rfl (n := 941) (by omega) (by omega) (by omega) dX6_passes_25 (fun z4 (hz4 : z4 = gA (w3 10) 1 2) rz4 => ?_)
  have rz4a := rz4.1
  have rz4b := rz4.2
  try simp (decide := true) only [hw3, hw2, hw1, up_s, gA_s, gA_sn, gN_sF, gA_sS, gN_sS, sA_st, sF_sF, sF_sS, sS_sS, arr_s, arr_n, arr_S, gA_aI, if_true, if_false, true_and, and_true, false_and, and_false] at hz4
  refine r_iconst hx hb dX6_passes_26 ?_
  refine r_iadd hx hb dX6_passes_27 ?_
  refine r_ist C0 hW (show 10 < 11 ∧ 1 < bs 10 from ⟨by decide, by decide⟩) (fun A => rfl) (n := 941) (v := iI (z4 + 1)) (by omega) (by omega) (by decide) dX6_passes_28 (fun H1 locs1 hW => ?_)
  obtain ⟨w5, hw5⟩ : ∃ wq9 : gW, wq9 = up w3 10 (sA (w3 10) 1 2 (iI (z4 + 1))) := ⟨_, rfl⟩
  rw [← hw5] at hW
  refine lv_iload_n hx hb dX6_passes_29 rfl (lv_at hl 0 rfl) ?_
  exact r_iret C0 hW ⟨by omega, by omega⟩ (⟨hz9, by unfold psA; simp (decide := true) only [hw5, hw3, hw2, hw1, up_up, up_s, gA_s, gA_sn, gN_sF, gA_sS, gN_sS, sA_st, sF_sF, sF_sS, sS_sS, arr_s, arr_n, arr_S, gA_aI, if_true, if_false, true_and, and_true, false_and, and_false, hz4]⟩) dX6_passes_30

/-- X6_sign: its end -/
def po_X6_sign (w : gW) : Int → gW → Prop := fun z w1 => (z = sgX (w 10) (gN (w 10) 0 9)) ∧ w = w1
theorem hdV_X6_sign : yX6_sign.cls = RX6 ∧ yX6_sign.cls ≠ "java/lang/invoke/MethodHandle" ∧ yX6_sign.cls ≠ "java/lang/invoke/VarHandle" ∧ (parseMethodDescriptor yX6_sign.desc).map (fun d => d.parameters.length) = some 0 := by decide +kernel
set_option maxHeartbeats 4000000 in
set_option maxRecDepth 100000 in
theorem c_X6_sign (l : Launch) (G : gG) (w : gW) (ht8 : 0 ≤ gN (w 10) 0 9 ∧ gN (w 10) 0 8 ≤ 60) : mI l G yX6_sign (wU yX6_sign cX6_sign 1 (some .int)) (rmL 0 0) [.ref (ad G 10 0)] w (po_X6_sign w) := by
  refine mI_of (by decide +kernel) (Nat.le_of_ble_eq_true rfl) (fun p e s m args below meth c ls C0 hW hl => ?_)
  have hl : lv_has ls 1 [(0, .ref (ad G 10 0))] := hl
  have hx := C0.hx
  have hb := C0.hb
  refine lv_aload_n hx hb dX6_sign_0 rfl (lv_at hl 0 rfl) ?_
  refine r_gI C0 hW (show 10 < 11 ∧ 0 < bs 10 from ⟨by decide, by decide⟩) rfl rfl hiX6 (k := 9) (by decide) kf_X6_122 rfl rfl rfl dX6_sign_1 (fun z1 (hz1 : z1 = gN (w 10) 0 9) rz1 => ?_)
  have rz1a := rz1.1
  have rz1b := rz1.2
  refine lv_aload_n hx hb dX6_sign_4 rfl (lv_at hl 0 rfl) ?_
  refine r_gI C0 hW (show 10 < 11 ∧ 0 < bs 10 from ⟨by decide, by decide⟩) rfl rfl hiX6 (k := 8) (by decide) kf_X6_119 rfl rfl rfl dX6_sign_5 (fun z2 (hz2 : z2 = gN (w 10) 0 8) rz2 => ?_)
  have rz2a := rz2.1
  have rz2b := rz2.2
  refine r_icmp_ge (tgt := 23) hx hb rz1 rz2 dX6_sign_8 (by decide) (fun c3 => ?_) (fun c3 => ?_)
  · refine r_iconst hx hb dX6_sign_23 ?_
    exact r_iret C0 hW ⟨by omega, by omega⟩ (⟨by unfold sgX; first | (rw [if_pos (by omega)]; simp only [hz1, hz2]) | (rw [if_neg (by omega)]), rfl⟩) dX6_sign_24
  · refine lv_aload_n hx hb dX6_sign_11 rfl (lv_at hl 0 rfl) ?_
    refine r_gR C0 hW (show 10 < 11 ∧ 0 < bs 10 from ⟨by decide, by decide⟩) rfl rfl hiX6 (k := 7) (by decide) kf_X6_22 rfl rfl rfl dX6_sign_12 ?_
    refine lv_aload_n hx hb dX6_sign_15 rfl (lv_at hl 0 rfl) ?_
    refine r_gI C0 hW (show 10 < 11 ∧ 0 < bs 10 from ⟨by decide, by decide⟩) rfl rfl hiX6 (k := 9) (by decide) kf_X6_122 rfl rfl rfl dX6_sign_16 (fun z4 (hz4 : z4 = gN (w 10) 0 9) rz4 => ?_)
    have rz4a := rz4.1
    have rz4b := rz4.2
    refine r_ild C0 hW (show 10 < 11 ∧ 5 < bs 10 from ⟨by decide, by decide⟩) rfl (n := 60) (by omega) (by omega) (by omega) dX6_sign_19 (fun z5 (hz5 : z5 = gA (w 10) 5 z4) rz5 => ?_)
    have rz5a := rz5.1
    have rz5b := rz5.2
    refine lv_goto (tgt := 24) hx hb dX6_sign_20 (by decide) ?_
    exact r_iret C0 hW rz5 (⟨by unfold sgX; first | (rw [if_pos (by omega)]; simp only [hz1, hz2, hz4, hz5]) | (rw [if_neg (by omega)]), rfl⟩) dX6_sign_24
