/-- X6_pass: its end -/
def po_X6_pass (w : gW) (v : Int) : Int → gW → Prop := fun z w1 => ((¬ (0 ≤ v ∧ v ≤ 2)) ∧ (z = -2) ∧ (w1 = up w 10 (sS (w 10) 0 0 (iI 0)))) ∨ ((0 ≤ v ∧ v ≤ 2) ∧ (z = psN ((w 10).1 1) v) ∧ (w1 = up w 10 (sF (recS (sS (w 10) 0 0 (iI 0))) 1 (psA ((w 10).1 1) v))))
theorem hdV_X6_pass : yX6_pass.cls = RX6 ∧ yX6_pass.cls ≠ "java/lang/invoke/MethodHandle" ∧ yX6_pass.cls ≠ "java/lang/invoke/VarHandle" ∧ (parseMethodDescriptor yX6_pass.desc).map (fun d => d.parameters.length) = some 1 := by decide +kernel
set_option maxHeartbeats 4000000 in
set_option maxRecDepth 100000 in
theorem c_X6_pass (l : Launch) (G : gG) (w : gW) (v : Int) (rv : inR v) (hM : mO w) : mI l G yX6_pass (wU yX6_pass cX6_pass 2 (some .int)) (rmL 4 92) [.ref (ad G 10 0), .int (iI v)] w (po_X6_pass w v) := by
  refine mI_of (by decide +kernel) (Nat.le_of_ble_eq_true rfl) (fun p e s m args below meth c ls C0 hW hl => ?_)
  have hl : lv_has ls 2 [(0, .ref (ad G 10 0)), (1, .int (iI v))] := hl
  have hx := C0.hx
  have hb := C0.hb
  obtain ⟨hwA, hop, hds, hsm, hln, hdy, hsk⟩ := id hM
  obtain ⟨hv1, hv2, hv3, hv4⟩ := id hwA
  refine lv_aload_n hx hb dX6_pass_0 rfl (lv_at hl 0 rfl) ?_
  refine r_iconst hx hb dX6_pass_1 ?_
  refine r_pI C0 hW (show 10 < 11 ∧ 0 < bs 10 from ⟨by decide, by decide⟩) rfl rfl hiX6 tyX6 tyX6_ok nmX6 (k := 0) (v := iI 0) (by decide) kf_X6_28 rfl rfl rfl (tyX6_ok 0 (by decide)) rfl rfl (by simp) rfl dX6_pass_2 (fun H1 locs1 hW => ?_)
  obtain ⟨w1, hw1⟩ : ∃ wq9 : gW, wq9 = up w 10 (sS (w 10) 0 0 (iI 0)) := ⟨_, rfl⟩
  rw [← hw1] at hW
  refine lv_iload_n hx hb dX6_pass_5 rfl (lv_at hl 1 rfl) ?_
  refine r_iconst hx hb dX6_pass_6 ?_
  refine r_iconst hx hb dX6_pass_7 ?_
  refine k_Si (host := "") C0 hW (As := [.int (iI v), .int (iI 0), .int (iI 2)]) (c_X6_in l G w1 v 0 2 rv ⟨by omega, by omega⟩ ⟨by omega, by omega⟩) km_X6_32 ks_X6_in kn_X6 kc_X6_in rfl hdS_X6_in ⟨by decide, by decide⟩ rfl hl.1 rfl (Nat.le_of_ble_eq_true rfl) dX6_pass_8 (fun z2 w2 H1 locs1 rz2 hp2 hW => ?_)
  obtain ⟨hp2, hq2⟩ := hp2
  subst hq2
  have rz2a := rz2.1
  have rz2b := rz2.2
  try simp (decide := true) only [hw1, up_s, gA_s, gA_sn, gN_sF, gA_sS, gN_sS, sA_st, sF_sF, sF_sS, sS_sS, arr_s, arr_n, arr_S, gA_aI, if_true, if_false, true_and, and_true, false_and, and_false, recS_1, recS_4, recS_5, recS_6, gN_rec, gA_sx, iIt0, iIt1] at hp2
  rcases hp2 with ⟨e2, hp2⟩ | ⟨e2, hp2⟩
  · subst e2
    refine r_if_ne (tgt := 17) hx hb ⟨by omega, by omega⟩ dX6_pass_11 (by decide) (fun _ => ?_) (fun q => absurd q (by decide))
    refine lv_aload_n hx hb dX6_pass_17 rfl (lv_at hl 0 rfl) ?_
    refine k_Vv (j := 10) (k0 := 0) C0 hW (c_X6_records l G w1 (by first | omega | (simp (decide := true) only [hw1, up_s, gA_s, gA_sn, gN_sF, gA_sS, gN_sS, sA_st, sF_sF, sF_sS, sS_sS, arr_s, arr_n, arr_S, gA_aI, if_true, if_false, true_and, and_true, false_and, and_false, recS_1, recS_4, recS_5, recS_6, gN_rec, gA_sx, iIt0, iIt1] <;> omega))) km_X6_80 ki_X6_records ke_X6_records kn_X6 kc_X6_records rfl hdV_X6_records ⟨by decide, by decide⟩ (show 10 < 11 ∧ 0 < bs 10 from ⟨by decide, by decide⟩) rfl rfl rfl hl.1 rfl (Nat.le_of_ble_eq_true rfl) dX6_pass_18 (fun w3 H1 locs1 hp3 hW => ?_)
    have hw3 : w3 = _ := hp3
    refine lv_aload_n hx hb dX6_pass_21 rfl (lv_at hl 0 rfl) ?_
    refine lv_iload_n hx hb dX6_pass_22 rfl (lv_at hl 1 rfl) ?_
    refine k_Vi (j := 10) (k0 := 0) C0 hW (c_X6_passes l G w3 v rv (by simp (decide := true) only [hw3, hw1, up_s, gA_s, gA_sn, gN_sF, gA_sS, gN_sS, sA_st, sF_sF, sF_sS, sS_sS, arr_s, arr_n, arr_S, gA_aI, if_true, if_false, true_and, and_true, false_and, and_false, recS_1, recS_4, recS_5, recS_6, gN_rec, gA_sx, iIt0, iIt1]; exact hwA)) km_X6_103 ki_X6_passes ke_X6_passes kn_X6 kc_X6_passes rfl hdV_X6_passes ⟨by decide, by decide⟩ (show 10 < 11 ∧ 0 < bs 10 from ⟨by decide, by decide⟩) rfl rfl rfl hl.1 rfl (Nat.le_of_ble_eq_true rfl) dX6_pass_23 (fun z4 w4 H1 locs1 rz4 hp4 hW => ?_)
    obtain ⟨hp4, hw4⟩ := hp4
    have rz4a := rz4.1
    have rz4b := rz4.2
    exact r_iret C0 hW rz4 (by first | exact Or.inl (⟨(by first | assumption | omega | trivial), (by first | omega | assumption | (simp only [id])), (by simp (decide := true) only [hw4, hw3, hw1, up_up, up_s, gA_s, gA_sn, gN_sF, gA_sS, gN_sS, sA_st, sF_sF, sF_sS, sS_sS, arr_s, arr_n, arr_S, gA_aI, if_true, if_false, true_and, and_true, false_and, and_false, recS_1, recS_4, recS_5, recS_6, gN_rec, gA_sx, iIt0, iIt1, id])⟩) | exact Or.inr (⟨(by first | assumption | omega | trivial), (by have q := hp4; simp (decide := true) only [hw4, hw3, hw1, up_s, gA_s, gA_sn, gN_sF, gA_sS, gN_sS, sA_st, sF_sF, sF_sS, sS_sS, arr_s, arr_n, arr_S, gA_aI, if_true, if_false, true_and, and_true, false_and, and_false, recS_1, recS_4, recS_5, recS_6, gN_rec, gA_sx, iIt0, iIt1] at q; exact q), (by simp (decide := true) only [hw4, hw3, hw1, up_up, up_s, gA_s, gA_sn, gN_sF, gA_sS, gN_sS, sA_st, sF_sF, sF_sS, sS_sS, arr_s, arr_n, arr_S, gA_aI, if_true, if_false, true_and, and_true, false_and, and_false, recS_1, recS_4, recS_5, recS_6, gN_rec, gA_sx, iIt0, iIt1, id])⟩)) dX6_pass_26
  · subst e2
    refine r_if_ne (tgt := 17) hx hb ⟨by omega, by omega⟩ dX6_pass_11 (by decide) (fun q => absurd q (by decide)) (fun _ => ?_)
    refine r_bipush hx hb dX6_pass_14 (by decide) ?_
    exact r_iret C0 hW ⟨by omega, by omega⟩ (by first | exact Or.inl (⟨(by first | assumption | omega | trivial), (by first | omega | assumption | (simp only [id])), (by simp (decide := true) only [hw1, up_up, up_s, gA_s, gA_sn, gN_sF, gA_sS, gN_sS, sA_st, sF_sF, sF_sS, sS_sS, arr_s, arr_n, arr_S, gA_aI, if_true, if_false, true_and, and_true, false_and, and_false, recS_1, recS_4, recS_5, recS_6, gN_rec, gA_sx, iIt0, iIt1, id])⟩)) dX6_pass_16

/-- X6_type: its end -/
def po_X6_type (w : gW) (v : Int) : Int → gW → Prop := fun z w1 => ((gN (w 10) 0 8 = 60) ∧ (z = -3) ∧ (w1 = up w 10 (sS (w 10) 0 0 (iI 0)))) ∨ ((gN (w 10) 0 8 < 60) ∧ (z = gN (w 10) 0 8 + 1) ∧ (w1 = up w 10 (sS (sS (sF (w 10) 5 (st ((w 10).1 5) (gN (w 10) 0 8) (iI v))) 0 0 (iI 0)) 0 8 (iI (gN (w 10) 0 8 + 1)))))
theorem hdV_X6_type : yX6_type.cls = RX6 ∧ yX6_type.cls ≠ "java/lang/invoke/MethodHandle" ∧ yX6_type.cls ≠ "java/lang/invoke/VarHandle" ∧ (parseMethodDescriptor yX6_type.desc).map (fun d => d.parameters.length) = some 1 := by decide +kernel
set_option maxHeartbeats 4000000 in
set_option maxRecDepth 100000 in
theorem c_X6_type (l : Launch) (G : gG) (w : gW) (v : Int) (rv : inR v) (hM : mO w) : mI l G yX6_type (wU yX6_type cX6_type 2 (some .int)) (rmL 0 0) [.ref (ad G 10 0), .int (iI v)] w (po_X6_type w v) := by
  refine mI_of (by decide +kernel) (Nat.le_of_ble_eq_true rfl) (fun p e s m args below meth c ls C0 hW hl => ?_)
  have hl : lv_has ls 2 [(0, .ref (ad G 10 0)), (1, .int (iI v))] := hl
  have hx := C0.hx
  have hb := C0.hb
  obtain ⟨hwA, hop, hds, hsm, hln, hdy, hsk⟩ := id hM
  obtain ⟨hv1, hv2, hv3, hv4⟩ := id hwA
  refine lv_aload_n hx hb dX6_type_0 rfl (lv_at hl 0 rfl) ?_
  refine r_iconst hx hb dX6_type_1 ?_
  refine r_pI C0 hW (show 10 < 11 ∧ 0 < bs 10 from ⟨by decide, by decide⟩) rfl rfl hiX6 tyX6 tyX6_ok nmX6 (k := 0) (v := iI 0) (by decide) kf_X6_28 rfl rfl rfl (tyX6_ok 0 (by decide)) rfl rfl (by simp) rfl dX6_type_2 (fun H1 locs1 hW => ?_)
  obtain ⟨w1, hw1⟩ : ∃ wq9 : gW, wq9 = up w 10 (sS (w 10) 0 0 (iI 0)) := ⟨_, rfl⟩
  rw [← hw1] at hW
  have hvw1 : (iI 0).toInt = 0 := iI_t ⟨by omega, by omega⟩
  refine lv_aload_n hx hb dX6_type_5 rfl (lv_at hl 0 rfl) ?_
  refine r_gI C0 hW (show 10 < 11 ∧ 0 < bs 10 from ⟨by decide, by decide⟩) rfl rfl hiX6 (k := 8) (by decide) kf_X6_119 rfl rfl rfl dX6_type_6 (fun z2 (hz2 : z2 = gN (w1 10) 0 8) rz2 => ?_)
  have rz2a := rz2.1
  have rz2b := rz2.2
  try simp (decide := true) only [hvw1, hw1, up_s, gA_s, gA_sn, gN_sF, gA_sS, gN_sS, sA_st, sF_sF, sF_sS, sS_sS, arr_s, arr_n, arr_S, gA_aI, if_true, if_false, true_and, and_true, false_and, and_false, recS_1, recS_4, recS_5, recS_6, gN_rec, gA_sx, iIt0, iIt1] at hz2
  refine r_bipush hx hb dX6_type_9 (by decide) ?_
  refine r_icmp_ne (tgt := 17) hx hb rz2 ⟨by omega, by omega⟩ dX6_type_11 (by decide) (fun c3 => ?_) (fun c3 => ?_)
  · refine lv_aload_n hx hb dX6_type_17 rfl (lv_at hl 0 rfl) ?_
    refine r_gR C0 hW (show 10 < 11 ∧ 0 < bs 10 from ⟨by decide, by decide⟩) rfl rfl hiX6 (k := 7) (by decide) kf_X6_22 rfl rfl rfl dX6_type_18 ?_
    refine lv_aload_n hx hb dX6_type_21 rfl (lv_at hl 0 rfl) ?_
    refine r_gI C0 hW (show 10 < 11 ∧ 0 < bs 10 from ⟨by decide, by decide⟩) rfl rfl hiX6 (k := 8) (by decide) kf_X6_119 rfl rfl rfl dX6_type_22 (fun z4 (hz4 : z4 = gN (w1 10) 0 8) rz4 => ?_)
    have rz4a := rz4.1
    have rz4b := rz4.2
    try simp (decide := true) only [hvw1, hw1, up_s, gA_s, gA_sn, gN_sF, gA_sS, gN_sS, sA_st, sF_sF, sF_sS, sS_sS, arr_s, arr_n, arr_S, gA_aI, if_true, if_false, true_and, and_true, false_and, and_false, recS_1, recS_4, recS_5, recS_6, gN_rec, gA_sx, iIt0, iIt1] at hz4
    refine lv_iload_n hx hb dX6_type_25 rfl (lv_at hl 1 rfl) ?_
    refine r_ist C0 hW (show 10 < 11 ∧ 5 < bs 10 from ⟨by decide, by decide⟩) (fun A => rfl) (n := 60) (v := iI v) (by omega) (by omega) (by decide) dX6_type_26 (fun H1 locs1 hW => ?_)
    obtain ⟨w5, hw5⟩ : ∃ wq9 : gW, wq9 = up w1 10 (sA (w1 10) 5 z4 (iI v)) := ⟨_, rfl⟩
    rw [← hw5] at hW
    refine lv_aload_n hx hb dX6_type_27 rfl (lv_at hl 0 rfl) ?_
    refine lv_dup hx hb dX6_type_28 rfl ?_
    refine r_gI C0 hW (show 10 < 11 ∧ 0 < bs 10 from ⟨by decide, by decide⟩) rfl rfl hiX6 (k := 8) (by decide) kf_X6_119 rfl rfl rfl dX6_type_29 (fun z6 (hz6 : z6 = gN (w5 10) 0 8) rz6 => ?_)
    have rz6a := rz6.1
    have rz6b := rz6.2
    try simp (decide := true) only [hw5, hvw1, hw1, up_s, gA_s, gA_sn, gN_sF, gA_sS, gN_sS, sA_st, sF_sF, sF_sS, sS_sS, arr_s, arr_n, arr_S, gA_aI, if_true, if_false, true_and, and_true, false_and, and_false, recS_1, recS_4, recS_5, recS_6, gN_rec, gA_sx, iIt0, iIt1] at hz6
    refine r_iconst hx hb dX6_type_32 ?_
    refine r_iadd hx hb dX6_type_33 ?_
    refine r_pI C0 hW (show 10 < 11 ∧ 0 < bs 10 from ⟨by decide, by decide⟩) rfl rfl hiX6 tyX6 tyX6_ok nmX6 (k := 8) (v := iI (z6 + 1)) (by decide) kf_X6_119 rfl rfl rfl (tyX6_ok 8 (by decide)) rfl rfl (by simp) rfl dX6_type_34 (fun H1 locs1 hW => ?_)
    obtain ⟨w7, hw7⟩ : ∃ wq9 : gW, wq9 = up w5 10 (sS (w5 10) 0 8 (iI (z6 + 1))) := ⟨_, rfl⟩
    rw [← hw7] at hW
    have hvw7 : (iI (z6 + 1)).toInt = (z6 + 1) := iI_t ⟨by omega, by omega⟩
    refine lv_aload_n hx hb dX6_type_37 rfl (lv_at hl 0 rfl) ?_
    refine r_gI C0 hW (show 10 < 11 ∧ 0 < bs 10 from ⟨by decide, by decide⟩) rfl rfl hiX6 (k := 8) (by decide) kf_X6_119 rfl rfl rfl dX6_type_38 (fun z8 (hz8 : z8 = gN (w7 10) 0 8) rz8 => ?_)
    have rz8a := rz8.1
    have rz8b := rz8.2
    try simp (decide := true) only [hvw7, hw7, hw5, hvw1, hw1, up_s, gA_s, gA_sn, gN_sF, gA_sS, gN_sS, sA_st, sF_sF, sF_sS, sS_sS, arr_s, arr_n, arr_S, gA_aI, if_true, if_false, true_and, and_true, false_and, and_false, recS_1, recS_4, recS_5, recS_6, gN_rec, gA_sx, iIt0, iIt1] at hz8
    exact r_iret C0 hW rz8 (by first | exact Or.inl (⟨(by first | assumption | omega | trivial), (by first | omega | assumption | (simp only [hz2, hz4, hz6, hz8])), (by simp (decide := true) only [hvw7, hw7, hw5, hvw1, hw1, up_up, up_s, gA_s, gA_sn, gN_sF, gA_sS, gN_sS, sA_st, sF_sF, sF_sS, sS_sS, arr_s, arr_n, arr_S, gA_aI, if_true, if_false, true_and, and_true, false_and, and_false, recS_1, recS_4, recS_5, recS_6, gN_rec, gA_sx, iIt0, iIt1, hz2, hz4, hz6, hz8])⟩) | exact Or.inr (⟨(by first | assumption | omega | trivial), (by rw [hz8]; first | (rw [hz6]) | omega), (by simp (decide := true) only [hvw7, hw7, hw5, hvw1, hw1, up_up, up_s, gA_s, gA_sn, gN_sF, gA_sS, gN_sS, sA_st, sF_sF, sF_sS, sS_sS, arr_s, arr_n, arr_S, gA_aI, if_true, if_false, true_and, and_true, false_and, and_false, recS_1, recS_4, recS_5, recS_6, gN_rec, gA_sx, iIt0, iIt1, hz2, hz4, hz6, hz8])⟩)) dX6_type_41
  · refine r_bipush hx hb dX6_type_14 (by decide) ?_
    exact r_iret C0 hW ⟨by omega, by omega⟩ (by first | exact Or.inl (⟨(by first | assumption | omega | trivial), (by first | omega | assumption | (simp only [hz2])), (by simp (decide := true) only [hvw1, hw1, up_up, up_s, gA_s, gA_sn, gN_sF, gA_sS, gN_sS, sA_st, sF_sF, sF_sS, sS_sS, arr_s, arr_n, arr_S, gA_aI, if_true, if_false, true_and, and_true, false_and, and_false, recS_1, recS_4, recS_5, recS_6, gN_rec, gA_sx, iIt0, iIt1, hz2])⟩)) dX6_type_16

/-- X6_clearText: its end -/
def po_X6_clearText (w : gW) : Int → gW → Prop := fun z w1 => ((True) ∧ (z = gN (w 10) 0 8) ∧ (w1 = up w 10 (sS (sS (w 10) 0 0 (iI 0)) 0 8 (iI 0))))
theorem hdV_X6_clearText : yX6_clearText.cls = RX6 ∧ yX6_clearText.cls ≠ "java/lang/invoke/MethodHandle" ∧ yX6_clearText.cls ≠ "java/lang/invoke/VarHandle" ∧ (parseMethodDescriptor yX6_clearText.desc).map (fun d => d.parameters.length) = some 0 := by decide +kernel
set_option maxHeartbeats 4000000 in
set_option maxRecDepth 100000 in
theorem c_X6_clearText (l : Launch) (G : gG) (w : gW) (hM : mO w) : mI l G yX6_clearText (wU yX6_clearText cX6_clearText 2 (some .int)) (rmL 0 0) [.ref (ad G 10 0)] w (po_X6_clearText w) := by
  refine mI_of (by decide +kernel) (Nat.le_of_ble_eq_true rfl) (fun p e s m args below meth c ls C0 hW hl => ?_)
  have hl : lv_has ls 2 [(0, .ref (ad G 10 0))] := hl
  have hx := C0.hx
  have hb := C0.hb
  obtain ⟨hwA, hop, hds, hsm, hln, hdy, hsk⟩ := id hM
  obtain ⟨hv1, hv2, hv3, hv4⟩ := id hwA
  refine lv_aload_n hx hb dX6_clearText_0 rfl (lv_at hl 0 rfl) ?_
  refine r_iconst hx hb dX6_clearText_1 ?_
  refine r_pI C0 hW (show 10 < 11 ∧ 0 < bs 10 from ⟨by decide, by decide⟩) rfl rfl hiX6 tyX6 tyX6_ok nmX6 (k := 0) (v := iI 0) (by decide) kf_X6_28 rfl rfl rfl (tyX6_ok 0 (by decide)) rfl rfl (by simp) rfl dX6_clearText_2 (fun H1 locs1 hW => ?_)
  obtain ⟨w1, hw1⟩ : ∃ wq9 : gW, wq9 = up w 10 (sS (w 10) 0 0 (iI 0)) := ⟨_, rfl⟩
  rw [← hw1] at hW
  refine lv_aload_n hx hb dX6_clearText_5 rfl (lv_at hl 0 rfl) ?_
  refine r_gI C0 hW (show 10 < 11 ∧ 0 < bs 10 from ⟨by decide, by decide⟩) rfl rfl hiX6 (k := 8) (by decide) kf_X6_119 rfl rfl rfl dX6_clearText_6 (fun z2 (hz2 : z2 = gN (w1 10) 0 8) rz2 => ?_)
  have rz2a := rz2.1
  have rz2b := rz2.2
  try simp (decide := true) only [hw1, up_s, gA_s, gA_sn, gN_sF, gA_sS, gN_sS, sA_st, sF_sF, sF_sS, sS_sS, arr_s, arr_n, arr_S, gA_aI, if_true, if_false, true_and, and_true, false_and, and_false, recS_1, recS_4, recS_5, recS_6, gN_rec, gA_sx, iIt0, iIt1] at hz2
  refine lv_istore_n (lv' := [(1, .int (iI z2)), (0, .ref (ad G 10 0))]) hx hb dX6_clearText_9 rfl hl (by decide) rfl (fun ls hl => ?_)
  refine lv_aload_n hx hb dX6_clearText_10 rfl (lv_at hl 1 rfl) ?_
  refine r_iconst hx hb dX6_clearText_11 ?_
  refine r_pI C0 hW (show 10 < 11 ∧ 0 < bs 10 from ⟨by decide, by decide⟩) rfl rfl hiX6 tyX6 tyX6_ok nmX6 (k := 8) (v := iI 0) (by decide) kf_X6_119 rfl rfl rfl (tyX6_ok 8 (by decide)) rfl rfl (by simp) rfl dX6_clearText_12 (fun H1 locs1 hW => ?_)
  obtain ⟨w3, hw3⟩ : ∃ wq9 : gW, wq9 = up w1 10 (sS (w1 10) 0 8 (iI 0)) := ⟨_, rfl⟩
  rw [← hw3] at hW
  refine lv_iload_n hx hb dX6_clearText_15 rfl (lv_at hl 0 rfl) ?_
  exact r_iret C0 hW rz2 (by first | exact ⟨(by first | assumption | omega | trivial), (by first | omega | assumption | (simp only [hz2])), (by simp (decide := true) only [hw3, hw1, up_up, up_s, gA_s, gA_sn, gN_sF, gA_sS, gN_sS, sA_st, sF_sF, sF_sS, sS_sS, arr_s, arr_n, arr_S, gA_aI, if_true, if_false, true_and, and_true, false_and, and_false, recS_1, recS_4, recS_5, recS_6, gN_rec, gA_sx, iIt0, iIt1, hz2])⟩) dX6_clearText_16

/-- X6_keep: its end -/
def po_X6_keep (w : gW) : Int → gW → Prop := fun z w1 => ((True) ∧ (z = aI ((w 10).1 1) 4) ∧ (w1 = up w 10 (sS (sS (sF (w 10) 4 (selG ((w 10).1 4) ((w 10).1 1) 0 941)) 0 0 (iI 0)) 0 6 (iI 1))))
theorem hdV_X6_keep : yX6_keep.cls = RX6 ∧ yX6_keep.cls ≠ "java/lang/invoke/MethodHandle" ∧ yX6_keep.cls ≠ "java/lang/invoke/VarHandle" ∧ (parseMethodDescriptor yX6_keep.desc).map (fun d => d.parameters.length) = some 0 := by decide +kernel
set_option maxHeartbeats 4000000 in
set_option maxRecDepth 100000 in
theorem c_X6_keep (l : Launch) (G : gG) (w : gW) (hM : mO w) : mI l G yX6_keep (wU yX6_keep cX6_keep 2 (some .int)) (rmL 0 0) [.ref (ad G 10 0)] w (po_X6_keep w) := by
  refine mI_of (by decide +kernel) (Nat.le_of_ble_eq_true rfl) (fun p e s m args below meth c ls C0 hW hl => ?_)
  have hl : lv_has ls 2 [(0, .ref (ad G 10 0))] := hl
  have hx := C0.hx
  have hb := C0.hb
  obtain ⟨hwA, hop, hds, hsm, hln, hdy, hsk⟩ := id hM
  obtain ⟨hv1, hv2, hv3, hv4⟩ := id hwA
  refine lv_aload_n hx hb dX6_keep_0 rfl (lv_at hl 0 rfl) ?_
  refine r_iconst hx hb dX6_keep_1 ?_
  refine r_pI C0 hW (show 10 < 11 ∧ 0 < bs 10 from ⟨by decide, by decide⟩) rfl rfl hiX6 tyX6 tyX6_ok nmX6 (k := 0) (v := iI 0) (by decide) kf_X6_28 rfl rfl rfl (tyX6_ok 0 (by decide)) rfl rfl (by simp) rfl dX6_keep_2 (fun H1 locs1 hW => ?_)
  obtain ⟨w1, hw1⟩ : ∃ wq9 : gW, wq9 = up w 10 (sS (w 10) 0 0 (iI 0)) := ⟨_, rfl⟩
  rw [← hw1] at hW
  refine r_iconst hx hb dX6_keep_5 ?_
  refine lv_istore_n (lv' := [(1, .int (iI 0)), (0, .ref (ad G 10 0))]) hx hb dX6_keep_6 rfl hl (by decide) rfl (fun ls hl => ?_)
  have hL7 : ∀ (n : Nat) (x1 : Int) (wv : gW) (hwv : wv = up w 10 (sS (sF (w 10) 4 (selG ((w 10).1 4) ((w 10).1 1) 0 x1)) 0 0 (iI 0))) (H0 : Heap) (locs0 : List Loc) (ls : Array Slot) (hm : 941 - x1 < (n : Int)) (i7_0 : 0 ≤ x1) (i7_1 : x1 ≤ 941) (hW : wo G wv s H0 locs0) (hl : lv_has ls 2 [(1, .int (iI x1)), (0, .ref (ad G 10 0))]), W p l e (rmL 0 0) s m args below meth c H0 locs0 0 0 (QI G (po_X6_keep w) below args s) (F0 m 7 ls []) := by
    intro n
    induction n with
    | zero =>
      intro x1 wv hwv H0 locs0 ls hm i7_0 i7_1 hW hl
      exact absurd hm (by omega)
    | succ n ih7 =>
      intro x1 wv hwv H0 locs0 ls hm i7_0 i7_1 hW hl
      refine lv_iload_n hx hb dX6_keep_7 rfl (lv_at hl 0 rfl) ?_
      refine r_sipush hx hb dX6_keep_8 (by decide) ?_
      refine r_icmp_ge (tgt := 32) hx hb ⟨by omega, by omega⟩ ⟨by omega, by omega⟩ dX6_keep_11 (by decide) (fun c2 => ?_) (fun c2 => ?_)
      · refine lv_aload_n hx hb dX6_keep_32 rfl (lv_at hl 1 rfl) ?_
        refine r_iconst hx hb dX6_keep_33 ?_
        refine r_pI C0 hW (show 10 < 11 ∧ 0 < bs 10 from ⟨by decide, by decide⟩) rfl rfl hiX6 tyX6 tyX6_ok nmX6 (k := 6) (v := iI 1) (by decide) kf_X6_138 rfl rfl rfl (tyX6_ok 6 (by decide)) (iI_bool (by first | exact Or.inl rfl | exact Or.inr rfl | omega)) (iI_fitz (by first | exact Or.inl rfl | exact Or.inr rfl | omega)) (by simp) rfl dX6_keep_34 (fun H1 locs1 hW => ?_)
        obtain ⟨w3, hw3⟩ : ∃ wq9 : gW, wq9 = up wv 10 (sS (wv 10) 0 6 (iI 1)) := ⟨_, rfl⟩
        rw [← hw3] at hW
        refine lv_aload_n hx hb dX6_keep_37 rfl (lv_at hl 1 rfl) ?_
        refine r_gR C0 hW (show 10 < 11 ∧ 0 < bs 10 from ⟨by decide, by decide⟩) rfl rfl hiX6 (k := 1) (by decide) kf_X6_7 rfl rfl rfl dX6_keep_38 ?_
        refine r_iconst hx hb dX6_keep_41 ?_
        refine r_ild C0 hW (show 10 < 11 ∧ 1 < bs 10 from ⟨by decide, by decide⟩) rfl (n := 941) (by omega) (by omega) (by omega) dX6_keep_42 (fun z4 (hz4 : z4 = gA (w3 10) 1 4) rz4 => ?_)
        have rz4a := rz4.1
        have rz4b := rz4.2
        try simp (decide := true) only [hw3, hwv, hw1, up_s, gA_s, gA_sn, gN_sF, gA_sS, gN_sS, sA_st, sF_sF, sF_sS, sS_sS, arr_s, arr_n, arr_S, gA_aI, if_true, if_false, true_and, and_true, false_and, and_false, recS_1, recS_4, recS_5, recS_6, gN_rec, gA_sx, iIt0, iIt1] at hz4
        exact r_iret C0 hW rz4 (by first | exact ⟨(by first | assumption | omega | trivial), (by first | omega | assumption | (simp only [hz4])), (by simp (decide := true) only [hw3, hwv, hw1, up_up, up_s, gA_s, gA_sn, gN_sF, gA_sS, gN_sS, sA_st, sF_sF, sF_sS, sS_sS, arr_s, arr_n, arr_S, gA_aI, if_true, if_false, true_and, and_true, false_and, and_false, recS_1, recS_4, recS_5, recS_6, gN_rec, gA_sx, iIt0, iIt1, show x1 = 941 from by omega])⟩) dX6_keep_43
      · refine lv_aload_n hx hb dX6_keep_14 rfl (lv_at hl 1 rfl) ?_
        refine r_gR C0 hW (show 10 < 11 ∧ 0 < bs 10 from ⟨by decide, by decide⟩) rfl rfl hiX6 (k := 5) (by decide) kf_X6_19 rfl rfl rfl dX6_keep_15 ?_
        refine lv_iload_n hx hb dX6_keep_18 rfl (lv_at hl 0 rfl) ?_
        refine lv_aload_n hx hb dX6_keep_19 rfl (lv_at hl 1 rfl) ?_
        refine r_gR C0 hW (show 10 < 11 ∧ 0 < bs 10 from ⟨by decide, by decide⟩) rfl rfl hiX6 (k := 1) (by decide) kf_X6_7 rfl rfl rfl dX6_keep_20 ?_
        refine lv_iload_n hx hb dX6_keep_23 rfl (lv_at hl 0 rfl) ?_
        refine r_ild C0 hW (show 10 < 11 ∧ 1 < bs 10 from ⟨by decide, by decide⟩) rfl (n := 941) (by omega) (by omega) (by omega) dX6_keep_24 (fun z5 (hz5 : z5 = gA (wv 10) 1 x1) rz5 => ?_)
        have rz5a := rz5.1
        have rz5b := rz5.2
        try simp (decide := true) only [hwv, hw1, up_s, gA_s, gA_sn, gN_sF, gA_sS, gN_sS, sA_st, sF_sF, sF_sS, sS_sS, arr_s, arr_n, arr_S, gA_aI, if_true, if_false, true_and, and_true, false_and, and_false, recS_1, recS_4, recS_5, recS_6, gN_rec, gA_sx, iIt0, iIt1] at hz5
        refine r_ist C0 hW (show 10 < 11 ∧ 4 < bs 10 from ⟨by decide, by decide⟩) (fun A => rfl) (n := 941) (v := iI z5) (by omega) (by omega) (by decide) dX6_keep_25 (fun H1 locs1 hW => ?_)
        obtain ⟨w6, hw6⟩ : ∃ wq9 : gW, wq9 = up wv 10 (sA (wv 10) 4 x1 (iI z5)) := ⟨_, rfl⟩
        rw [← hw6] at hW
        refine r_iinc (lv' := [(1, .int (iI (x1 + 1))), (0, .ref (ad G 10 0))]) hx hb dX6_keep_26 hl (k := 0) rfl (by decide) rfl (fun ls hl => ?_)
        refine lv_goto (tgt := 7) hx hb dX6_keep_29 (by decide) ?_
        exact ih7 (x1 + 1) _ (by simp (decide := true) only [hw6, hwv, hw1, up_up, up_s, sA_st, arr_S, arr_s, sF_sS, sF_sF]; rw [selG_s _ _ (by omega), show iI z5 = ((w 10).1 1) x1 from by rw [hz5, aI_i]]) _ _ ls (by omega) (by omega) (by omega) hW (lv_sub hl [0, 1] rfl)
  exact hL7 942 0 _ (by rw [selG_0 _ _ (by omega), sF_id]; first | exact hw1 | (simp (decide := true) only [hw1, up_s, gA_s, gA_sn, gN_sF, gA_sS, gN_sS, sA_st, sF_sF, sF_sS, sS_sS, arr_s, arr_n, arr_S, gA_aI, if_true, if_false, true_and, and_true, false_and, and_false, recS_1, recS_4, recS_5, recS_6, gN_rec, gA_sx, iIt0, iIt1])) _ _ ls (by omega) (by omega) (by omega) hW (lv_sub hl [0, 1] rfl)

/-- X6_undo: its end -/
def po_X6_undo (w : gW) : Int → gW → Prop := fun z w1 => ((gN (w 10) 0 4 = 0) ∧ (z = -5) ∧ (w1 = up w 10 (sS (w 10) 0 0 (iI 0)))) ∨ ((0 < gN (w 10) 0 4) ∧ (z = gN (w 10) 0 4 - 1) ∧ (w1 = up w 10 (sS (sS (sF (w 10) 1 (selG ((w 10).1 1) (fun i => (w 10).1 3 (941 * (gN (w 10) 0 4 - 1) + i)) 0 941)) 0 0 (iI 0)) 0 4 (iI (gN (w 10) 0 4 - 1)))))
theorem hdV_X6_undo : yX6_undo.cls = RX6 ∧ yX6_undo.cls ≠ "java/lang/invoke/MethodHandle" ∧ yX6_undo.cls ≠ "java/lang/invoke/VarHandle" ∧ (parseMethodDescriptor yX6_undo.desc).map (fun d => d.parameters.length) = some 0 := by decide +kernel
set_option maxHeartbeats 4000000 in
set_option maxRecDepth 100000 in
theorem c_X6_undo (l : Launch) (G : gG) (w : gW) (hM : mO w) : mI l G yX6_undo (wU yX6_undo cX6_undo 2 (some .int)) (rmL 0 0) [.ref (ad G 10 0)] w (po_X6_undo w) := by
  refine mI_of (by decide +kernel) (Nat.le_of_ble_eq_true rfl) (fun p e s m args below meth c ls C0 hW hl => ?_)
  have hl : lv_has ls 2 [(0, .ref (ad G 10 0))] := hl
  have hx := C0.hx
  have hb := C0.hb
  obtain ⟨hwA, hop, hds, hsm, hln, hdy, hsk⟩ := id hM
  obtain ⟨hv1, hv2, hv3, hv4⟩ := id hwA
  refine lv_aload_n hx hb dX6_undo_0 rfl (lv_at hl 0 rfl) ?_
  refine r_iconst hx hb dX6_undo_1 ?_
  refine r_pI C0 hW (show 10 < 11 ∧ 0 < bs 10 from ⟨by decide, by decide⟩) rfl rfl hiX6 tyX6 tyX6_ok nmX6 (k := 0) (v := iI 0) (by decide) kf_X6_28 rfl rfl rfl (tyX6_ok 0 (by decide)) rfl rfl (by simp) rfl dX6_undo_2 (fun H1 locs1 hW => ?_)
  obtain ⟨w1, hw1⟩ : ∃ wq9 : gW, wq9 = up w 10 (sS (w 10) 0 0 (iI 0)) := ⟨_, rfl⟩
  rw [← hw1] at hW
  have hvw1 : (iI 0).toInt = 0 := iI_t ⟨by omega, by omega⟩
  refine lv_aload_n hx hb dX6_undo_5 rfl (lv_at hl 0 rfl) ?_
  refine r_gI C0 hW (show 10 < 11 ∧ 0 < bs 10 from ⟨by decide, by decide⟩) rfl rfl hiX6 (k := 4) (by decide) kf_X6_40 rfl rfl rfl dX6_undo_6 (fun z2 (hz2 : z2 = gN (w1 10) 0 4) rz2 => ?_)
  have rz2a := rz2.1
  have rz2b := rz2.2
  try simp (decide := true) only [hvw1, hw1, up_s, gA_s, gA_sn, gN_sF, gA_sS, gN_sS, sA_st, sF_sF, sF_sS, sS_sS, arr_s, arr_n, arr_S, gA_aI, if_true, if_false, true_and, and_true, false_and, and_false, recS_1, recS_4, recS_5, recS_6, gN_rec, gA_sx, iIt0, iIt1] at hz2
  refine r_if_ne (tgt := 15) hx hb rz2 dX6_undo_9 (by decide) (fun c3 => ?_) (fun c3 => ?_)
  · refine lv_aload_n hx hb dX6_undo_15 rfl (lv_at hl 0 rfl) ?_
    refine lv_dup hx hb dX6_undo_16 rfl ?_
    refine r_gI C0 hW (show 10 < 11 ∧ 0 < bs 10 from ⟨by decide, by decide⟩) rfl rfl hiX6 (k := 4) (by decide) kf_X6_40 rfl rfl rfl dX6_undo_17 (fun z4 (hz4 : z4 = gN (w1 10) 0 4) rz4 => ?_)
    have rz4a := rz4.1
    have rz4b := rz4.2
    try simp (decide := true) only [hvw1, hw1, up_s, gA_s, gA_sn, gN_sF, gA_sS, gN_sS, sA_st, sF_sF, sF_sS, sS_sS, arr_s, arr_n, arr_S, gA_aI, if_true, if_false, true_and, and_true, false_and, and_false, recS_1, recS_4, recS_5, recS_6, gN_rec, gA_sx, iIt0, iIt1] at hz4
    refine r_iconst hx hb dX6_undo_20 ?_
    refine r_isub hx hb dX6_undo_21 ?_
    refine r_pI C0 hW (show 10 < 11 ∧ 0 < bs 10 from ⟨by decide, by decide⟩) rfl rfl hiX6 tyX6 tyX6_ok nmX6 (k := 4) (v := iI (z4 - 1)) (by decide) kf_X6_40 rfl rfl rfl (tyX6_ok 4 (by decide)) rfl rfl (by simp) rfl dX6_undo_22 (fun H1 locs1 hW => ?_)
    obtain ⟨w5, hw5⟩ : ∃ wq9 : gW, wq9 = up w1 10 (sS (w1 10) 0 4 (iI (z4 - 1))) := ⟨_, rfl⟩
    rw [← hw5] at hW
    have hvw5 : (iI (z4 - 1)).toInt = (z4 - 1) := iI_t ⟨by omega, by omega⟩
    have hE4 : w5 = up w 10 (sS (sS (w 10) 0 0 (iI 0)) 0 4 (iI (gN (w 10) 0 4 - 1))) := by simp (decide := true) only [hvw5, hw5, hvw1, hw1, up_up, up_s, gA_s, gA_sn, gN_sF, gA_sS, gN_sS, sA_st, sF_sF, sF_sS, sS_sS, arr_s, arr_n, arr_S, gA_aI, if_true, if_false, true_and, and_true, false_and, and_false, recS_1, recS_4, recS_5, recS_6, gN_rec, gA_sx, iIt0, iIt1, hz2, hz4]
    have hv4 : (iI (gN (w 10) 0 4 - 1)).toInt = gN (w 10) 0 4 - 1 := iI_t ⟨by omega, by omega⟩
    refine r_iconst hx hb dX6_undo_25 ?_
    refine lv_istore_n (lv' := [(1, .int (iI 0)), (0, .ref (ad G 10 0))]) hx hb dX6_undo_26 rfl hl (by decide) rfl (fun ls hl => ?_)
    have hL27 : ∀ (n : Nat) (x1 : Int) (wv : gW) (hwv : wv = up w 10 (sS (sS (sF (w 10) 1 (selG ((w 10).1 1) (fun i => (w 10).1 3 (941 * (gN (w 10) 0 4 - 1) + i)) 0 x1)) 0 0 (iI 0)) 0 4 (iI (gN (w 10) 0 4 - 1)))) (H0 : Heap) (locs0 : List Loc) (ls : Array Slot) (hm : 941 - x1 < (n : Int)) (i27_0 : 0 ≤ x1) (i27_1 : x1 ≤ 941) (hW : wo G wv s H0 locs0) (hl : lv_has ls 2 [(1, .int (iI x1)), (0, .ref (ad G 10 0))]), W p l e (rmL 0 0) s m args below meth c H0 locs0 0 0 (QI G (po_X6_undo w) below args s) (F0 m 27 ls []) := by
      intro n
      induction n with
      | zero =>
        intro x1 wv hwv H0 locs0 ls hm i27_0 i27_1 hW hl
        exact absurd hm (by omega)
      | succ n ih27 =>
        intro x1 wv hwv H0 locs0 ls hm i27_0 i27_1 hW hl
        refine lv_iload_n hx hb dX6_undo_27 rfl (lv_at hl 0 rfl) ?_
        refine r_sipush hx hb dX6_undo_28 (by decide) ?_
        refine r_icmp_ge (tgt := 61) hx hb ⟨by omega, by omega⟩ ⟨by omega, by omega⟩ dX6_undo_31 (by decide) (fun c6 => ?_) (fun c6 => ?_)
        · refine lv_aload_n hx hb dX6_undo_61 rfl (lv_at hl 1 rfl) ?_
          refine r_gI C0 hW (show 10 < 11 ∧ 0 < bs 10 from ⟨by decide, by decide⟩) rfl rfl hiX6 (k := 4) (by decide) kf_X6_40 rfl rfl rfl dX6_undo_62 (fun z7 (hz7 : z7 = gN (wv 10) 0 4) rz7 => ?_)
          have rz7a := rz7.1
          have rz7b := rz7.2
          try simp (decide := true) only [hwv, hv4, hvw5, hw5, hvw1, hw1, up_s, gA_s, gA_sn, gN_sF, gA_sS, gN_sS, sA_st, sF_sF, sF_sS, sS_sS, arr_s, arr_n, arr_S, gA_aI, if_true, if_false, true_and, and_true, false_and, and_false, recS_1, recS_4, recS_5, recS_6, gN_rec, gA_sx, iIt0, iIt1] at hz7
          exact r_iret C0 hW rz7 (by first | exact Or.inl (⟨(by first | assumption | omega | trivial), (by first | omega | assumption | (simp only [hz2, hz4, hz7])), (by simp (decide := true) only [hwv, hv4, hvw5, hw5, hvw1, hw1, up_up, up_s, gA_s, gA_sn, gN_sF, gA_sS, gN_sS, sA_st, sF_sF, sF_sS, sS_sS, arr_s, arr_n, arr_S, gA_aI, if_true, if_false, true_and, and_true, false_and, and_false, recS_1, recS_4, recS_5, recS_6, gN_rec, gA_sx, iIt0, iIt1, hz2, hz4, hz7])⟩) | exact Or.inr (⟨(by first | assumption | omega | trivial), (by omega), (by rw [hwv, show x1 = 941 from by omega])⟩)) dX6_undo_65
        · refine lv_aload_n hx hb dX6_undo_34 rfl (lv_at hl 1 rfl) ?_
          refine r_gR C0 hW (show 10 < 11 ∧ 0 < bs 10 from ⟨by decide, by decide⟩) rfl rfl hiX6 (k := 1) (by decide) kf_X6_7 rfl rfl rfl dX6_undo_35 ?_
          refine lv_iload_n hx hb dX6_undo_38 rfl (lv_at hl 0 rfl) ?_
          refine lv_aload_n hx hb dX6_undo_39 rfl (lv_at hl 1 rfl) ?_
          refine r_gR C0 hW (show 10 < 11 ∧ 0 < bs 10 from ⟨by decide, by decide⟩) rfl rfl hiX6 (k := 3) (by decide) kf_X6_16 rfl rfl rfl dX6_undo_40 ?_
          refine r_sipush hx hb dX6_undo_43 (by decide) ?_
          refine lv_aload_n hx hb dX6_undo_46 rfl (lv_at hl 1 rfl) ?_
          refine r_gI C0 hW (show 10 < 11 ∧ 0 < bs 10 from ⟨by decide, by decide⟩) rfl rfl hiX6 (k := 4) (by decide) kf_X6_40 rfl rfl rfl dX6_undo_47 (fun z8 (hz8 : z8 = gN (wv 10) 0 4) rz8 => ?_)
          have rz8a := rz8.1
          have rz8b := rz8.2
          try simp (decide := true) only [hwv, hv4, hvw5, hw5, hvw1, hw1, up_s, gA_s, gA_sn, gN_sF, gA_sS, gN_sS, sA_st, sF_sF, sF_sS, sS_sS, arr_s, arr_n, arr_S, gA_aI, if_true, if_false, true_and, and_true, false_and, and_false, recS_1, recS_4, recS_5, recS_6, gN_rec, gA_sx, iIt0, iIt1] at hz8
          refine r_imul hx hb dX6_undo_50 ?_
          refine lv_iload_n hx hb dX6_undo_51 rfl (lv_at hl 0 rfl) ?_
          refine r_iadd hx hb dX6_undo_52 ?_
          refine r_ild C0 hW (show 10 < 11 ∧ 3 < bs 10 from ⟨by decide, by decide⟩) rfl (n := 3764) (by omega) (by omega) (by omega) dX6_undo_53 (fun z9 (hz9 : z9 = gA (wv 10) 3 ((941 * z8) + x1)) rz9 => ?_)
          have rz9a := rz9.1
          have rz9b := rz9.2
          try simp (decide := true) only [hwv, hv4, hvw5, hw5, hvw1, hw1, up_s, gA_s, gA_sn, gN_sF, gA_sS, gN_sS, sA_st, sF_sF, sF_sS, sS_sS, arr_s, arr_n, arr_S, gA_aI, if_true, if_false, true_and, and_true, false_and, and_false, recS_1, recS_4, recS_5, recS_6, gN_rec, gA_sx, iIt0, iIt1] at hz9
          refine r_ist C0 hW (show 10 < 11 ∧ 1 < bs 10 from ⟨by decide, by decide⟩) (fun A => rfl) (n := 941) (v := iI z9) (by omega) (by omega) (by decide) dX6_undo_54 (fun H1 locs1 hW => ?_)
          obtain ⟨w10, hw10⟩ : ∃ wq9 : gW, wq9 = up wv 10 (sA (wv 10) 1 x1 (iI z9)) := ⟨_, rfl⟩
          rw [← hw10] at hW
          refine r_iinc (lv' := [(1, .int (iI (x1 + 1))), (0, .ref (ad G 10 0))]) hx hb dX6_undo_55 hl (k := 0) rfl (by decide) rfl (fun ls hl => ?_)
          refine lv_goto (tgt := 27) hx hb dX6_undo_58 (by decide) ?_
          exact ih27 (x1 + 1) _ (by simp (decide := true) only [hw10, hwv, hv4, hvw5, hw5, hvw1, hw1, up_up, up_s, sA_st, arr_S, arr_s, sF_sS, sF_sF]; rw [selG_s _ _ (by omega), show iI z9 = (w 10).1 3 (941 * (gN (w 10) 0 4 - 1) + x1) from by rw [hz9, show z8 = gN (w 10) 0 4 - 1 from by omega]; exact aI_i _ _]) _ _ ls (by omega) (by omega) (by omega) hW (lv_sub hl [0, 1] rfl)
    exact hL27 942 0 _ (by rw [selG_0 _ _ (by omega), sF_id]; exact hE4) _ _ ls (by omega) (by omega) (by omega) hW (lv_sub hl [0, 1] rfl)
  · refine r_bipush hx hb dX6_undo_12 (by decide) ?_
    exact r_iret C0 hW ⟨by omega, by omega⟩ (by first | exact Or.inl (⟨(by first | assumption | omega | trivial), (by first | omega | assumption | (simp only [hz2])), (by simp (decide := true) only [hvw1, hw1, up_up, up_s, gA_s, gA_sn, gN_sF, gA_sS, gN_sS, sA_st, sF_sF, sF_sS, sS_sS, arr_s, arr_n, arr_S, gA_aI, if_true, if_false, true_and, and_true, false_and, and_false, recS_1, recS_4, recS_5, recS_6, gN_rec, gA_sx, iIt0, iIt1, hz2])⟩) | exact Or.inr (⟨(by first | assumption | omega | trivial), (by omega), (by rw [hwv, show x1 = 941 from by omega])⟩)) dX6_undo_14

/-- X6_restore: its end -/
def po_X6_restore (w : gW) : Int → gW → Prop := fun z w1 => ((gN (w 10) 0 6 = 0) ∧ (z = -5) ∧ (w1 = up w 10 (sS (w 10) 0 0 (iI 0)))) ∨ ((¬ gN (w 10) 0 6 = 0) ∧ (z = aI ((w 10).1 4) 4) ∧ (w1 = up w 10 (sF (recS (sS (w 10) 0 0 (iI 0))) 1 (selG ((w 10).1 1) ((w 10).1 4) 0 941))))
theorem hdV_X6_restore : yX6_restore.cls = RX6 ∧ yX6_restore.cls ≠ "java/lang/invoke/MethodHandle" ∧ yX6_restore.cls ≠ "java/lang/invoke/VarHandle" ∧ (parseMethodDescriptor yX6_restore.desc).map (fun d => d.parameters.length) = some 0 := by decide +kernel
set_option maxHeartbeats 4000000 in
set_option maxRecDepth 100000 in
theorem c_X6_restore (l : Launch) (G : gG) (w : gW) (hM : mO w) : mI l G yX6_restore (wU yX6_restore cX6_restore 2 (some .int)) (rmL 1 21) [.ref (ad G 10 0)] w (po_X6_restore w) := by
  refine mI_of (by decide +kernel) (Nat.le_of_ble_eq_true rfl) (fun p e s m args below meth c ls C0 hW hl => ?_)
  have hl : lv_has ls 2 [(0, .ref (ad G 10 0))] := hl
  have hx := C0.hx
  have hb := C0.hb
  obtain ⟨hwA, hop, hds, hsm, hln, hdy, hsk⟩ := id hM
  obtain ⟨hv1, hv2, hv3, hv4⟩ := id hwA
  refine lv_aload_n hx hb dX6_restore_0 rfl (lv_at hl 0 rfl) ?_
  refine r_iconst hx hb dX6_restore_1 ?_
  refine r_pI C0 hW (show 10 < 11 ∧ 0 < bs 10 from ⟨by decide, by decide⟩) rfl rfl hiX6 tyX6 tyX6_ok nmX6 (k := 0) (v := iI 0) (by decide) kf_X6_28 rfl rfl rfl (tyX6_ok 0 (by decide)) rfl rfl (by simp) rfl dX6_restore_2 (fun H1 locs1 hW => ?_)
  obtain ⟨w1, hw1⟩ : ∃ wq9 : gW, wq9 = up w 10 (sS (w 10) 0 0 (iI 0)) := ⟨_, rfl⟩
  rw [← hw1] at hW
  refine lv_aload_n hx hb dX6_restore_5 rfl (lv_at hl 0 rfl) ?_
  refine r_gI C0 hW (show 10 < 11 ∧ 0 < bs 10 from ⟨by decide, by decide⟩) rfl rfl hiX6 (k := 6) (by decide) kf_X6_138 rfl rfl rfl dX6_restore_6 (fun z2 (hz2 : z2 = gN (w1 10) 0 6) rz2 => ?_)
  have rz2a := rz2.1
  have rz2b := rz2.2
  try simp (decide := true) only [hw1, up_s, gA_s, gA_sn, gN_sF, gA_sS, gN_sS, sA_st, sF_sF, sF_sS, sS_sS, arr_s, arr_n, arr_S, gA_aI, if_true, if_false, true_and, and_true, false_and, and_false, recS_1, recS_4, recS_5, recS_6, gN_rec, gA_sx, iIt0, iIt1] at hz2
  refine r_if_ne (tgt := 15) hx hb rz2 dX6_restore_9 (by decide) (fun c3 => ?_) (fun c3 => ?_)
  · refine lv_aload_n hx hb dX6_restore_15 rfl (lv_at hl 0 rfl) ?_
    refine k_Vv (j := 10) (k0 := 0) C0 hW (c_X6_records l G w1 (by first | omega | (simp (decide := true) only [hw1, up_s, gA_s, gA_sn, gN_sF, gA_sS, gN_sS, sA_st, sF_sF, sF_sS, sS_sS, arr_s, arr_n, arr_S, gA_aI, if_true, if_false, true_and, and_true, false_and, and_false, recS_1, recS_4, recS_5, recS_6, gN_rec, gA_sx, iIt0, iIt1] <;> omega))) km_X6_80 ki_X6_records ke_X6_records kn_X6 kc_X6_records rfl hdV_X6_records ⟨by decide, by decide⟩ (show 10 < 11 ∧ 0 < bs 10 from ⟨by decide, by decide⟩) rfl rfl rfl hl.1 rfl (Nat.le_of_ble_eq_true rfl) dX6_restore_16 (fun w4 H1 locs1 hp4 hW => ?_)
    have hw4 : w4 = _ := hp4
    refine r_iconst hx hb dX6_restore_19 ?_
    refine lv_istore_n (lv' := [(1, .int (iI 0)), (0, .ref (ad G 10 0))]) hx hb dX6_restore_20 rfl hl (by decide) rfl (fun ls hl => ?_)
    have hL21 : ∀ (n : Nat) (x1 : Int) (wv : gW) (hwv : wv = up w 10 (sF (recS (sS (w 10) 0 0 (iI 0))) 1 (selG ((w 10).1 1) ((w 10).1 4) 0 x1))) (H0 : Heap) (locs0 : List Loc) (ls : Array Slot) (hm : 941 - x1 < (n : Int)) (i21_0 : 0 ≤ x1) (i21_1 : x1 ≤ 941) (hW : wo G wv s H0 locs0) (hl : lv_has ls 2 [(1, .int (iI x1)), (0, .ref (ad G 10 0))]), W p l e (rmL 1 21) s m args below meth c H0 locs0 0 0 (QI G (po_X6_restore w) below args s) (F0 m 21 ls []) := by
      intro n
      induction n with
      | zero =>
        intro x1 wv hwv H0 locs0 ls hm i21_0 i21_1 hW hl
        exact absurd hm (by omega)
      | succ n ih21 =>
        intro x1 wv hwv H0 locs0 ls hm i21_0 i21_1 hW hl
        refine lv_iload_n hx hb dX6_restore_21 rfl (lv_at hl 0 rfl) ?_
        refine r_sipush hx hb dX6_restore_22 (by decide) ?_
        refine r_icmp_ge (tgt := 46) hx hb ⟨by omega, by omega⟩ ⟨by omega, by omega⟩ dX6_restore_25 (by decide) (fun c5 => ?_) (fun c5 => ?_)
        · refine lv_aload_n hx hb dX6_restore_46 rfl (lv_at hl 1 rfl) ?_
          refine r_gR C0 hW (show 10 < 11 ∧ 0 < bs 10 from ⟨by decide, by decide⟩) rfl rfl hiX6 (k := 1) (by decide) kf_X6_7 rfl rfl rfl dX6_restore_47 ?_
          refine r_iconst hx hb dX6_restore_50 ?_
          refine r_ild C0 hW (show 10 < 11 ∧ 1 < bs 10 from ⟨by decide, by decide⟩) rfl (n := 941) (by omega) (by omega) (by omega) dX6_restore_51 (fun z6 (hz6 : z6 = gA (wv 10) 1 4) rz6 => ?_)
          have rz6a := rz6.1
          have rz6b := rz6.2
          try simp (decide := true) only [hwv, hw4, hw1, up_s, gA_s, gA_sn, gN_sF, gA_sS, gN_sS, sA_st, sF_sF, sF_sS, sS_sS, arr_s, arr_n, arr_S, gA_aI, if_true, if_false, true_and, and_true, false_and, and_false, recS_1, recS_4, recS_5, recS_6, gN_rec, gA_sx, iIt0, iIt1] at hz6
          exact r_iret C0 hW rz6 (by first | exact Or.inl (⟨(by first | assumption | omega | trivial), (by first | omega | assumption | (simp only [hz2, hz6])), (by simp (decide := true) only [hwv, hw4, hw1, up_up, up_s, gA_s, gA_sn, gN_sF, gA_sS, gN_sS, sA_st, sF_sF, sF_sS, sS_sS, arr_s, arr_n, arr_S, gA_aI, if_true, if_false, true_and, and_true, false_and, and_false, recS_1, recS_4, recS_5, recS_6, gN_rec, gA_sx, iIt0, iIt1, hz2, hz6])⟩) | exact Or.inr (⟨(by first | assumption | omega | trivial), (by rw [hz6, aI_si _ _ (by omega)]), (by rw [hwv, show x1 = 941 from by omega])⟩)) dX6_restore_52
        · refine lv_aload_n hx hb dX6_restore_28 rfl (lv_at hl 1 rfl) ?_
          refine r_gR C0 hW (show 10 < 11 ∧ 0 < bs 10 from ⟨by decide, by decide⟩) rfl rfl hiX6 (k := 1) (by decide) kf_X6_7 rfl rfl rfl dX6_restore_29 ?_
          refine lv_iload_n hx hb dX6_restore_32 rfl (lv_at hl 0 rfl) ?_
          refine lv_aload_n hx hb dX6_restore_33 rfl (lv_at hl 1 rfl) ?_
          refine r_gR C0 hW (show 10 < 11 ∧ 0 < bs 10 from ⟨by decide, by decide⟩) rfl rfl hiX6 (k := 5) (by decide) kf_X6_19 rfl rfl rfl dX6_restore_34 ?_
          refine lv_iload_n hx hb dX6_restore_37 rfl (lv_at hl 0 rfl) ?_
          refine r_ild C0 hW (show 10 < 11 ∧ 4 < bs 10 from ⟨by decide, by decide⟩) rfl (n := 941) (by omega) (by omega) (by omega) dX6_restore_38 (fun z7 (hz7 : z7 = gA (wv 10) 4 x1) rz7 => ?_)
          have rz7a := rz7.1
          have rz7b := rz7.2
          try simp (decide := true) only [hwv, hw4, hw1, up_s, gA_s, gA_sn, gN_sF, gA_sS, gN_sS, sA_st, sF_sF, sF_sS, sS_sS, arr_s, arr_n, arr_S, gA_aI, if_true, if_false, true_and, and_true, false_and, and_false, recS_1, recS_4, recS_5, recS_6, gN_rec, gA_sx, iIt0, iIt1] at hz7
          refine r_ist C0 hW (show 10 < 11 ∧ 1 < bs 10 from ⟨by decide, by decide⟩) (fun A => rfl) (n := 941) (v := iI z7) (by omega) (by omega) (by decide) dX6_restore_39 (fun H1 locs1 hW => ?_)
          obtain ⟨w8, hw8⟩ : ∃ wq9 : gW, wq9 = up wv 10 (sA (wv 10) 1 x1 (iI z7)) := ⟨_, rfl⟩
          rw [← hw8] at hW
          refine r_iinc (lv' := [(1, .int (iI (x1 + 1))), (0, .ref (ad G 10 0))]) hx hb dX6_restore_40 hl (k := 0) rfl (by decide) rfl (fun ls hl => ?_)
          refine lv_goto (tgt := 21) hx hb dX6_restore_43 (by decide) ?_
          exact ih21 (x1 + 1) _ (by simp (decide := true) only [hw8, hwv, hw4, hw1, up_up, up_s, sA_st, arr_S, arr_s, sF_sS, sF_sF]; rw [selG_s _ _ (by omega), show iI z7 = ((w 10).1 4) x1 from by rw [hz7]; exact aI_i _ _]) _ _ ls (by omega) (by omega) (by omega) hW (lv_sub hl [0, 1] rfl)
    exact hL21 942 0 _ (by rw [selG_0 _ _ (by omega), show sF (recS (sS (w 10) 0 0 (iI 0))) 1 ((w 10).1 1) = (recS (sS (w 10) 0 0 (iI 0))) from sF_id _ _]; simp (decide := true) only [hw4, hw1, up_up, up_s]) _ _ ls (by omega) (by omega) (by omega) hW (lv_sub hl [0, 1] rfl)
  · refine r_bipush hx hb dX6_restore_12 (by decide) ?_
    exact r_iret C0 hW ⟨by omega, by omega⟩ (by first | exact Or.inl (⟨(by first | assumption | omega | trivial), (by first | omega | assumption | (simp only [hz2])), (by simp (decide := true) only [hw1, up_up, up_s, gA_s, gA_sn, gN_sF, gA_sS, gN_sS, sA_st, sF_sF, sF_sS, sS_sS, arr_s, arr_n, arr_S, gA_aI, if_true, if_false, true_and, and_true, false_and, and_false, recS_1, recS_4, recS_5, recS_6, gN_rec, gA_sx, iIt0, iIt1, hz2])⟩)) dX6_restore_14
