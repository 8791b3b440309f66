/-- X6_turn: its end -/
def po_X6_turn (w : gW) (r : Int) : Int → gW → Prop := fun z w1 => ((nop ((w 10).1 1) r) ∧ (z = -1) ∧ (w1 = up w 10 (sS (w 10) 0 0 (iI 0)))) ∨ ((∃ pa : Int, plc ((w 10).1 1) r pa ∧ aI ((w 10).1 1) (101 + 6 * pa + 5) = 1 ∧ z = -4 ∧ w1 = up w 10 (sS (w 10) 0 0 (iI 0))) ∧ (w1 = w1)) ∨ ((∃ pa : Int, plc ((w 10).1 1) r pa ∧ ¬ aI ((w 10).1 1) (101 + 6 * pa + 5) = 1 ∧ aI ((w 10).1 1) (101 + 6 * pa + 4) = 1 ∧ z = -5 ∧ w1 = up w 10 (sS (w 10) 0 0 (iI 0))) ∧ (w1 = w1)) ∨ ((∃ pa : Int, plc ((w 10).1 1) r pa ∧ ¬ aI ((w 10).1 1) (101 + 6 * pa + 5) = 1 ∧ ¬ aI ((w 10).1 1) (101 + 6 * pa + 4) = 1 ∧ z = aI ((w 10).1 1) (101 + 6 * pa + 3) ∧ w1 = up w 10 (sF (recS (sS (w 10) 0 0 (iI 0))) 1 (st ((w 10).1 1) (101 + 6 * pa + 4) (iI 1)))) ∧ (w1 = w1))
theorem hdV_X6_turn : yX6_turn.cls = RX6 ∧ yX6_turn.cls ≠ "java/lang/invoke/MethodHandle" ∧ yX6_turn.cls ≠ "java/lang/invoke/VarHandle" ∧ (parseMethodDescriptor yX6_turn.desc).map (fun d => d.parameters.length) = some 1 := by decide +kernel
set_option maxHeartbeats 4000000 in
set_option maxRecDepth 100000 in
theorem c_X6_turn (l : Launch) (G : gG) (w : gW) (r : Int) (rr : inR r) (hM : mO w) : mI l G yX6_turn (wU yX6_turn cX6_turn 3 (some .int)) (rmL 2 44) [.ref (ad G 10 0), .int (iI r)] w (po_X6_turn w r) := by
  refine mI_of (by decide +kernel) (Nat.le_of_ble_eq_true rfl) (fun p e s m args below meth c ls C0 hW hl => ?_)
  have hl : lv_has ls 3 [(0, .ref (ad G 10 0)), (1, .int (iI r))] := hl
  have hx := C0.hx
  have hb := C0.hb
  obtain ⟨hwA, hop, hds, hsm, hln, hdy, hsk⟩ := id hM
  obtain ⟨hv1, hv2, hv3, hv4⟩ := id hwA
  refine lv_aload_n hx hb dX6_turn_0 rfl (lv_at hl 0 rfl) ?_
  refine r_iconst hx hb dX6_turn_1 ?_
  refine r_pI C0 hW (show 10 < 11 ∧ 0 < bs 10 from ⟨by decide, by decide⟩) rfl rfl hiX6 tyX6 tyX6_ok nmX6 (k := 0) (v := iI 0) (by decide) kf_X6_28 rfl rfl rfl (tyX6_ok 0 (by decide)) rfl rfl (by simp) rfl dX6_turn_2 (fun H1 locs1 hW => ?_)
  obtain ⟨w1, hw1⟩ : ∃ wq9 : gW, wq9 = up w 10 (sS (w 10) 0 0 (iI 0)) := ⟨_, rfl⟩
  rw [← hw1] at hW
  refine lv_aload_n hx hb dX6_turn_5 rfl (lv_at hl 0 rfl) ?_
  refine lv_iload_n hx hb dX6_turn_6 rfl (lv_at hl 1 rfl) ?_
  refine k_Vi (j := 10) (k0 := 0) C0 hW (c_X6_placeOf l G w1 r rr (by first | omega | (simp (decide := true) only [hw1, up_s, gA_s, gA_sn, gN_sF, gA_sS, gN_sS, sA_st, sF_sF, sF_sS, sS_sS, arr_s, arr_n, arr_S, gA_aI, if_true, if_false, true_and, and_true, false_and, and_false, recS_1, recS_4, recS_5, recS_6, gN_rec, gA_sx, iIt0, iIt1] <;> omega))) km_X6_96 ki_X6_placeOf ke_X6_placeOf kn_X6 kc_X6_placeOf rfl hdV_X6_placeOf ⟨by decide, by decide⟩ (show 10 < 11 ∧ 0 < bs 10 from ⟨by decide, by decide⟩) rfl rfl rfl hl.1 rfl (Nat.le_of_ble_eq_true rfl) dX6_turn_7 (fun z2 w2 H1 locs1 rz2 hp2 hW => ?_)
  obtain ⟨hp2, hq2⟩ := hp2
  subst hq2
  have rz2a := rz2.1
  have rz2b := rz2.2
  try simp (decide := true) only [hw1, up_s, gA_s, gA_sn, gN_sF, gA_sS, gN_sS, sA_st, sF_sF, sF_sS, sS_sS, arr_s, arr_n, arr_S, gA_aI, if_true, if_false, true_and, and_true, false_and, and_false, recS_1, recS_4, recS_5, recS_6, gN_rec, gA_sx, iIt0, iIt1] at hp2
  have hpz : z2 = -5 ∨ (0 ≤ z2 ∧ z2 < aI ((w 10).1 1) 4) := by rcases hp2 with ⟨t, -⟩ | ⟨t1, t2, -⟩ <;> omega
  refine lv_istore_n (lv' := [(2, .int (iI z2)), (0, .ref (ad G 10 0)), (1, .int (iI r))]) hx hb dX6_turn_10 rfl hl (by decide) rfl (fun ls hl => ?_)
  refine lv_iload_n hx hb dX6_turn_11 rfl (lv_at hl 0 rfl) ?_
  refine r_bipush hx hb dX6_turn_12 (by decide) ?_
  refine r_icmp_ne (tgt := 19) hx hb rz2 ⟨by omega, by omega⟩ dX6_turn_14 (by decide) (fun c3 => ?_) (fun c3 => ?_)
  · have hvw := hv2 z2 (by omega) (by omega)
    refine lv_aload_n hx hb dX6_turn_19 rfl (lv_at hl 1 rfl) ?_
    refine lv_iload_n hx hb dX6_turn_20 rfl (lv_at hl 0 rfl) ?_
    refine r_iconst hx hb dX6_turn_21 ?_
    refine k_Vi (j := 10) (k0 := 0) C0 hW (c_X6_ofRow l G w1 z2 5 rz2 ⟨by omega, by omega⟩ (by omega)) km_X6_36 ki_X6_ofRow ke_X6_ofRow kn_X6 kc_X6_ofRow rfl hdV_X6_ofRow ⟨by decide, by decide⟩ (show 10 < 11 ∧ 0 < bs 10 from ⟨by decide, by decide⟩) rfl rfl rfl hl.1 rfl (Nat.le_of_ble_eq_true rfl) dX6_turn_22 (fun z4 w4 H1 locs1 rz4 hp4 hW => ?_)
    obtain ⟨hp4, hq4⟩ := hp4
    subst hq4
    have rz4a := rz4.1
    have rz4b := rz4.2
    try simp (decide := true) only [hw1, up_s, gA_s, gA_sn, gN_sF, gA_sS, gN_sS, sA_st, sF_sF, sF_sS, sS_sS, arr_s, arr_n, arr_S, gA_aI, if_true, if_false, true_and, and_true, false_and, and_false, recS_1, recS_4, recS_5, recS_6, gN_rec, gA_sx, iIt0, iIt1] at hp4
    refine r_iconst hx hb dX6_turn_25 ?_
    refine r_icmp_eq (tgt := 39) hx hb rz4 ⟨by omega, by omega⟩ dX6_turn_26 (by decide) (fun c5 => ?_) (fun c5 => ?_)
    · refine lv_aload_n hx hb dX6_turn_39 rfl (lv_at hl 1 rfl) ?_
      refine lv_iload_n hx hb dX6_turn_40 rfl (lv_at hl 0 rfl) ?_
      refine r_iconst hx hb dX6_turn_41 ?_
      refine k_Vi (j := 10) (k0 := 0) C0 hW (c_X6_ofRow l G w1 z2 5 rz2 ⟨by omega, by omega⟩ (by omega)) km_X6_36 ki_X6_ofRow ke_X6_ofRow kn_X6 kc_X6_ofRow rfl hdV_X6_ofRow ⟨by decide, by decide⟩ (show 10 < 11 ∧ 0 < bs 10 from ⟨by decide, by decide⟩) rfl rfl rfl hl.1 rfl (Nat.le_of_ble_eq_true rfl) dX6_turn_42 (fun z6 w6 H1 locs1 rz6 hp6 hW => ?_)
      obtain ⟨hp6, hq6⟩ := hp6
      subst hq6
      have rz6a := rz6.1
      have rz6b := rz6.2
      try simp (decide := true) only [hw1, up_s, gA_s, gA_sn, gN_sF, gA_sS, gN_sS, sA_st, sF_sF, sF_sS, sS_sS, arr_s, arr_n, arr_S, gA_aI, if_true, if_false, true_and, and_true, false_and, and_false, recS_1, recS_4, recS_5, recS_6, gN_rec, gA_sx, iIt0, iIt1] at hp6; (try simp only [hp4] at hp6)
      refine r_iconst hx hb dX6_turn_45 ?_
      refine r_icmp_ne (tgt := 54) hx hb rz6 ⟨by omega, by omega⟩ dX6_turn_46 (by decide) (fun c7 => ?_) (fun c7 => ?_)
      · refine r_bipush hx hb dX6_turn_54 (by decide) ?_
        exact r_iret C0 hW ⟨by omega, by omega⟩ (by first | exact Or.inl (⟨(by have q := hp2; rcases q with ⟨t, t2⟩ | ⟨t1, t2, t3, t4⟩; exact t2; omega), (by first | omega | assumption | (simp only [hp4, hp6])), (by simp (decide := true) only [hw1, up_up, up_s, gA_s, gA_sn, gN_sF, gA_sS, gN_sS, sA_st, sF_sF, sF_sS, sS_sS, arr_s, arr_n, arr_S, gA_aI, if_true, if_false, true_and, and_true, false_and, and_false, recS_1, recS_4, recS_5, recS_6, gN_rec, gA_sx, iIt0, iIt1, hp4, hp6])⟩) | exact Or.inr (Or.inl (⟨(⟨z2, ⟨⟨by omega, by omega⟩, by have q := hp2; rcases q with ⟨t, t2⟩ | ⟨t1, t2, t3, t4⟩; (exfalso; omega); (exact ⟨t3, t4⟩)⟩, by omega, by first | omega | (simp only [hp4, hp6]) | (simp only [hp4, hp6]; omega), by simp (decide := true) only [hw1, up_up, up_s, gA_s, gA_sn, gN_sF, gA_sS, gN_sS, sA_st, sF_sF, sF_sS, sS_sS, arr_s, arr_n, arr_S, gA_aI, if_true, if_false, true_and, and_true, false_and, and_false, recS_1, recS_4, recS_5, recS_6, gN_rec, gA_sx, iIt0, iIt1, hp4, hp6]⟩), (rfl)⟩)) | exact Or.inr (Or.inr (Or.inl (⟨(⟨z2, ⟨⟨by omega, by omega⟩, by have q := hp2; rcases q with ⟨t, t2⟩ | ⟨t1, t2, t3, t4⟩; (exfalso; omega); (exact ⟨t3, t4⟩)⟩, by omega, by omega, by first | omega | (simp only [hp4, hp6]) | (simp only [hp4, hp6]; omega), by simp (decide := true) only [hw1, up_up, up_s, gA_s, gA_sn, gN_sF, gA_sS, gN_sS, sA_st, sF_sF, sF_sS, sS_sS, arr_s, arr_n, arr_S, gA_aI, if_true, if_false, true_and, and_true, false_and, and_false, recS_1, recS_4, recS_5, recS_6, gN_rec, gA_sx, iIt0, iIt1, hp4, hp6]⟩), (rfl)⟩))) | exact Or.inr (Or.inr (Or.inr (⟨(⟨z2, ⟨⟨by omega, by omega⟩, by have q := hp2; rcases q with ⟨t, t2⟩ | ⟨t1, t2, t3, t4⟩; (exfalso; omega); (exact ⟨t3, t4⟩)⟩, by omega, by omega, ez9, by simp (decide := true) only [hw1, up_up, up_s, gA_s, gA_sn, gN_sF, gA_sS, gN_sS, sA_st, sF_sF, sF_sS, sS_sS, arr_s, arr_n, arr_S, gA_aI, if_true, if_false, true_and, and_true, false_and, and_false, recS_1, recS_4, recS_5, recS_6, gN_rec, gA_sx, iIt0, iIt1, hp4, hp6]⟩), (rfl)⟩)))) dX6_turn_56
      · refine r_bipush hx hb dX6_turn_49 (by decide) ?_
        refine lv_goto (tgt := 56) hx hb dX6_turn_51 (by decide) ?_
        exact r_iret C0 hW ⟨by omega, by omega⟩ (by first | exact Or.inl (⟨(by have q := hp2; rcases q with ⟨t, t2⟩ | ⟨t1, t2, t3, t4⟩; exact t2; omega), (by first | omega | assumption | (simp only [hp4, hp6])), (by simp (decide := true) only [hw1, up_up, up_s, gA_s, gA_sn, gN_sF, gA_sS, gN_sS, sA_st, sF_sF, sF_sS, sS_sS, arr_s, arr_n, arr_S, gA_aI, if_true, if_false, true_and, and_true, false_and, and_false, recS_1, recS_4, recS_5, recS_6, gN_rec, gA_sx, iIt0, iIt1, hp4, hp6])⟩) | exact Or.inr (Or.inl (⟨(⟨z2, ⟨⟨by omega, by omega⟩, by have q := hp2; rcases q with ⟨t, t2⟩ | ⟨t1, t2, t3, t4⟩; (exfalso; omega); (exact ⟨t3, t4⟩)⟩, by omega, by first | omega | (simp only [hp4, hp6]) | (simp only [hp4, hp6]; omega), by simp (decide := true) only [hw1, up_up, up_s, gA_s, gA_sn, gN_sF, gA_sS, gN_sS, sA_st, sF_sF, sF_sS, sS_sS, arr_s, arr_n, arr_S, gA_aI, if_true, if_false, true_and, and_true, false_and, and_false, recS_1, recS_4, recS_5, recS_6, gN_rec, gA_sx, iIt0, iIt1, hp4, hp6]⟩), (rfl)⟩)) | exact Or.inr (Or.inr (Or.inl (⟨(⟨z2, ⟨⟨by omega, by omega⟩, by have q := hp2; rcases q with ⟨t, t2⟩ | ⟨t1, t2, t3, t4⟩; (exfalso; omega); (exact ⟨t3, t4⟩)⟩, by omega, by omega, by first | omega | (simp only [hp4, hp6]) | (simp only [hp4, hp6]; omega), by simp (decide := true) only [hw1, up_up, up_s, gA_s, gA_sn, gN_sF, gA_sS, gN_sS, sA_st, sF_sF, sF_sS, sS_sS, arr_s, arr_n, arr_S, gA_aI, if_true, if_false, true_and, and_true, false_and, and_false, recS_1, recS_4, recS_5, recS_6, gN_rec, gA_sx, iIt0, iIt1, hp4, hp6]⟩), (rfl)⟩))) | exact Or.inr (Or.inr (Or.inr (⟨(⟨z2, ⟨⟨by omega, by omega⟩, by have q := hp2; rcases q with ⟨t, t2⟩ | ⟨t1, t2, t3, t4⟩; (exfalso; omega); (exact ⟨t3, t4⟩)⟩, by omega, by omega, ez9, by simp (decide := true) only [hw1, up_up, up_s, gA_s, gA_sn, gN_sF, gA_sS, gN_sS, sA_st, sF_sF, sF_sS, sS_sS, arr_s, arr_n, arr_S, gA_aI, if_true, if_false, true_and, and_true, false_and, and_false, recS_1, recS_4, recS_5, recS_6, gN_rec, gA_sx, iIt0, iIt1, hp4, hp6]⟩), (rfl)⟩)))) dX6_turn_56
    · refine lv_aload_n hx hb dX6_turn_29 rfl (lv_at hl 1 rfl) ?_
      refine lv_iload_n hx hb dX6_turn_30 rfl (lv_at hl 0 rfl) ?_
      refine r_iconst hx hb dX6_turn_31 ?_
      refine k_Vi (j := 10) (k0 := 0) C0 hW (c_X6_ofRow l G w1 z2 4 rz2 ⟨by omega, by omega⟩ (by omega)) km_X6_36 ki_X6_ofRow ke_X6_ofRow kn_X6 kc_X6_ofRow rfl hdV_X6_ofRow ⟨by decide, by decide⟩ (show 10 < 11 ∧ 0 < bs 10 from ⟨by decide, by decide⟩) rfl rfl rfl hl.1 rfl (Nat.le_of_ble_eq_true rfl) dX6_turn_32 (fun z8 w8 H1 locs1 rz8 hp8 hW => ?_)
      obtain ⟨hp8, hq8⟩ := hp8
      subst hq8
      have rz8a := rz8.1
      have rz8b := rz8.2
      try simp (decide := true) only [hw1, up_s, gA_s, gA_sn, gN_sF, gA_sS, gN_sS, sA_st, sF_sF, sF_sS, sS_sS, arr_s, arr_n, arr_S, gA_aI, if_true, if_false, true_and, and_true, false_and, and_false, recS_1, recS_4, recS_5, recS_6, gN_rec, gA_sx, iIt0, iIt1] at hp8; (try simp only [hp4] at hp8)
      refine r_iconst hx hb dX6_turn_35 ?_
      refine r_icmp_ne (tgt := 57) hx hb rz8 ⟨by omega, by omega⟩ dX6_turn_36 (by decide) (fun c9 => ?_) (fun c9 => ?_)
      · refine lv_aload_n hx hb dX6_turn_57 rfl (lv_at hl 1 rfl) ?_
        refine k_Vv (j := 10) (k0 := 0) C0 hW (c_X6_records l G w1 (by first | omega | (simp (decide := true) only [hw1, up_s, gA_s, gA_sn, gN_sF, gA_sS, gN_sS, sA_st, sF_sF, sF_sS, sS_sS, arr_s, arr_n, arr_S, gA_aI, if_true, if_false, true_and, and_true, false_and, and_false, recS_1, recS_4, recS_5, recS_6, gN_rec, gA_sx, iIt0, iIt1] <;> omega))) km_X6_80 ki_X6_records ke_X6_records kn_X6 kc_X6_records rfl hdV_X6_records ⟨by decide, by decide⟩ (show 10 < 11 ∧ 0 < bs 10 from ⟨by decide, by decide⟩) rfl rfl rfl hl.1 rfl (Nat.le_of_ble_eq_true rfl) dX6_turn_58 (fun w10 H1 locs1 hp10 hW => ?_)
        have hw10 : w10 = _ := hp10
        refine lv_aload_n hx hb dX6_turn_61 rfl (lv_at hl 1 rfl) ?_
        refine lv_iload_n hx hb dX6_turn_62 rfl (lv_at hl 0 rfl) ?_
        refine r_iconst hx hb dX6_turn_63 ?_
        refine r_iconst hx hb dX6_turn_64 ?_
        refine k_Vv (j := 10) (k0 := 0) C0 hW (c_X6_layRow l G w10 z2 4 1 rz2 ⟨by omega, by omega⟩ ⟨by omega, by omega⟩ (by omega)) km_X6_46 ki_X6_layRow ke_X6_layRow kn_X6 kc_X6_layRow rfl hdV_X6_layRow ⟨by decide, by decide⟩ (show 10 < 11 ∧ 0 < bs 10 from ⟨by decide, by decide⟩) rfl rfl rfl hl.1 rfl (Nat.le_of_ble_eq_true rfl) dX6_turn_65 (fun w11 H1 locs1 hp11 hW => ?_)
        have hw11 : w11 = _ := hp11
        refine lv_aload_n hx hb dX6_turn_68 rfl (lv_at hl 1 rfl) ?_
        refine lv_iload_n hx hb dX6_turn_69 rfl (lv_at hl 0 rfl) ?_
        refine r_iconst hx hb dX6_turn_70 ?_
        refine k_Vi (j := 10) (k0 := 0) C0 hW (c_X6_ofRow l G w11 z2 3 rz2 ⟨by omega, by omega⟩ (by omega)) km_X6_36 ki_X6_ofRow ke_X6_ofRow kn_X6 kc_X6_ofRow rfl hdV_X6_ofRow ⟨by decide, by decide⟩ (show 10 < 11 ∧ 0 < bs 10 from ⟨by decide, by decide⟩) rfl rfl rfl hl.1 rfl (Nat.le_of_ble_eq_true rfl) dX6_turn_71 (fun z12 w12 H1 locs1 rz12 hp12 hW => ?_)
        obtain ⟨hp12, hq12⟩ := hp12
        subst hq12
        have rz12a := rz12.1
        have rz12b := rz12.2
        try simp (decide := true) only [hw11, hw10, hw1, up_s, gA_s, gA_sn, gN_sF, gA_sS, gN_sS, sA_st, sF_sF, sF_sS, sS_sS, arr_s, arr_n, arr_S, gA_aI, if_true, if_false, true_and, and_true, false_and, and_false, recS_1, recS_4, recS_5, recS_6, gN_rec, gA_sx, iIt0, iIt1] at hp12; (try simp only [hp4, hp8] at hp12)
        have ez9 : z12 = aI ((w 10).1 1) (101 + 6 * z2 + 3) := by have q := hp12; rw [aI_n _ _ (by omega)] at q; exact q
        exact r_iret C0 hW rz12 (by first | exact Or.inl (⟨(by have q := hp2; rcases q with ⟨t, t2⟩ | ⟨t1, t2, t3, t4⟩; exact t2; omega), (by first | omega | assumption | (simp only [hp4, hp8, hp12])), (by simp (decide := true) only [hw11, hw10, hw1, up_up, up_s, gA_s, gA_sn, gN_sF, gA_sS, gN_sS, sA_st, sF_sF, sF_sS, sS_sS, arr_s, arr_n, arr_S, gA_aI, if_true, if_false, true_and, and_true, false_and, and_false, recS_1, recS_4, recS_5, recS_6, gN_rec, gA_sx, iIt0, iIt1, hp4, hp8, hp12])⟩) | exact Or.inr (Or.inl (⟨(⟨z2, ⟨⟨by omega, by omega⟩, by have q := hp2; rcases q with ⟨t, t2⟩ | ⟨t1, t2, t3, t4⟩; (exfalso; omega); (exact ⟨t3, t4⟩)⟩, by omega, by first | omega | (simp only [hp4, hp8, hp12]) | (simp only [hp4, hp8, hp12]; omega), by simp (decide := true) only [hw11, hw10, hw1, up_up, up_s, gA_s, gA_sn, gN_sF, gA_sS, gN_sS, sA_st, sF_sF, sF_sS, sS_sS, arr_s, arr_n, arr_S, gA_aI, if_true, if_false, true_and, and_true, false_and, and_false, recS_1, recS_4, recS_5, recS_6, gN_rec, gA_sx, iIt0, iIt1, hp4, hp8, hp12]⟩), (rfl)⟩)) | exact Or.inr (Or.inr (Or.inl (⟨(⟨z2, ⟨⟨by omega, by omega⟩, by have q := hp2; rcases q with ⟨t, t2⟩ | ⟨t1, t2, t3, t4⟩; (exfalso; omega); (exact ⟨t3, t4⟩)⟩, by omega, by omega, by first | omega | (simp only [hp4, hp8, hp12]) | (simp only [hp4, hp8, hp12]; omega), by simp (decide := true) only [hw11, hw10, hw1, up_up, up_s, gA_s, gA_sn, gN_sF, gA_sS, gN_sS, sA_st, sF_sF, sF_sS, sS_sS, arr_s, arr_n, arr_S, gA_aI, if_true, if_false, true_and, and_true, false_and, and_false, recS_1, recS_4, recS_5, recS_6, gN_rec, gA_sx, iIt0, iIt1, hp4, hp8, hp12]⟩), (rfl)⟩))) | exact Or.inr (Or.inr (Or.inr (⟨(⟨z2, ⟨⟨by omega, by omega⟩, by have q := hp2; rcases q with ⟨t, t2⟩ | ⟨t1, t2, t3, t4⟩; (exfalso; omega); (exact ⟨t3, t4⟩)⟩, by omega, by omega, ez9, by simp (decide := true) only [hw11, hw10, hw1, up_up, up_s, gA_s, gA_sn, gN_sF, gA_sS, gN_sS, sA_st, sF_sF, sF_sS, sS_sS, arr_s, arr_n, arr_S, gA_aI, if_true, if_false, true_and, and_true, false_and, and_false, recS_1, recS_4, recS_5, recS_6, gN_rec, gA_sx, iIt0, iIt1, hp4, hp8, hp12]⟩), (rfl)⟩)))) dX6_turn_74
      · refine lv_aload_n hx hb dX6_turn_39 rfl (lv_at hl 1 rfl) ?_
        refine lv_iload_n hx hb dX6_turn_40 rfl (lv_at hl 0 rfl) ?_
        refine r_iconst hx hb dX6_turn_41 ?_
        refine k_Vi (j := 10) (k0 := 0) C0 hW (c_X6_ofRow l G w1 z2 5 rz2 ⟨by omega, by omega⟩ (by omega)) km_X6_36 ki_X6_ofRow ke_X6_ofRow kn_X6 kc_X6_ofRow rfl hdV_X6_ofRow ⟨by decide, by decide⟩ (show 10 < 11 ∧ 0 < bs 10 from ⟨by decide, by decide⟩) rfl rfl rfl hl.1 rfl (Nat.le_of_ble_eq_true rfl) dX6_turn_42 (fun z13 w13 H1 locs1 rz13 hp13 hW => ?_)
        obtain ⟨hp13, hq13⟩ := hp13
        subst hq13
        have rz13a := rz13.1
        have rz13b := rz13.2
        try simp (decide := true) only [hw1, up_s, gA_s, gA_sn, gN_sF, gA_sS, gN_sS, sA_st, sF_sF, sF_sS, sS_sS, arr_s, arr_n, arr_S, gA_aI, if_true, if_false, true_and, and_true, false_and, and_false, recS_1, recS_4, recS_5, recS_6, gN_rec, gA_sx, iIt0, iIt1] at hp13; (try simp only [hp4, hp8] at hp13)
        refine r_iconst hx hb dX6_turn_45 ?_
        refine r_icmp_ne (tgt := 54) hx hb rz13 ⟨by omega, by omega⟩ dX6_turn_46 (by decide) (fun c14 => ?_) (fun c14 => ?_)
        · refine r_bipush hx hb dX6_turn_54 (by decide) ?_
          exact r_iret C0 hW ⟨by omega, by omega⟩ (by first | exact Or.inl (⟨(by have q := hp2; rcases q with ⟨t, t2⟩ | ⟨t1, t2, t3, t4⟩; exact t2; omega), (by first | omega | assumption | (simp only [hp4, hp8, hp13])), (by simp (decide := true) only [hw1, up_up, up_s, gA_s, gA_sn, gN_sF, gA_sS, gN_sS, sA_st, sF_sF, sF_sS, sS_sS, arr_s, arr_n, arr_S, gA_aI, if_true, if_false, true_and, and_true, false_and, and_false, recS_1, recS_4, recS_5, recS_6, gN_rec, gA_sx, iIt0, iIt1, hp4, hp8, hp13])⟩) | exact Or.inr (Or.inl (⟨(⟨z2, ⟨⟨by omega, by omega⟩, by have q := hp2; rcases q with ⟨t, t2⟩ | ⟨t1, t2, t3, t4⟩; (exfalso; omega); (exact ⟨t3, t4⟩)⟩, by omega, by first | omega | (simp only [hp4, hp8, hp13]) | (simp only [hp4, hp8, hp13]; omega), by simp (decide := true) only [hw1, up_up, up_s, gA_s, gA_sn, gN_sF, gA_sS, gN_sS, sA_st, sF_sF, sF_sS, sS_sS, arr_s, arr_n, arr_S, gA_aI, if_true, if_false, true_and, and_true, false_and, and_false, recS_1, recS_4, recS_5, recS_6, gN_rec, gA_sx, iIt0, iIt1, hp4, hp8, hp13]⟩), (rfl)⟩)) | exact Or.inr (Or.inr (Or.inl (⟨(⟨z2, ⟨⟨by omega, by omega⟩, by have q := hp2; rcases q with ⟨t, t2⟩ | ⟨t1, t2, t3, t4⟩; (exfalso; omega); (exact ⟨t3, t4⟩)⟩, by omega, by omega, by first | omega | (simp only [hp4, hp8, hp13]) | (simp only [hp4, hp8, hp13]; omega), by simp (decide := true) only [hw1, up_up, up_s, gA_s, gA_sn, gN_sF, gA_sS, gN_sS, sA_st, sF_sF, sF_sS, sS_sS, arr_s, arr_n, arr_S, gA_aI, if_true, if_false, true_and, and_true, false_and, and_false, recS_1, recS_4, recS_5, recS_6, gN_rec, gA_sx, iIt0, iIt1, hp4, hp8, hp13]⟩), (rfl)⟩))) | exact Or.inr (Or.inr (Or.inr (⟨(⟨z2, ⟨⟨by omega, by omega⟩, by have q := hp2; rcases q with ⟨t, t2⟩ | ⟨t1, t2, t3, t4⟩; (exfalso; omega); (exact ⟨t3, t4⟩)⟩, by omega, by omega, ez9, by simp (decide := true) only [hw1, up_up, up_s, gA_s, gA_sn, gN_sF, gA_sS, gN_sS, sA_st, sF_sF, sF_sS, sS_sS, arr_s, arr_n, arr_S, gA_aI, if_true, if_false, true_and, and_true, false_and, and_false, recS_1, recS_4, recS_5, recS_6, gN_rec, gA_sx, iIt0, iIt1, hp4, hp8, hp13]⟩), (rfl)⟩)))) dX6_turn_56
        · refine r_bipush hx hb dX6_turn_49 (by decide) ?_
          refine lv_goto (tgt := 56) hx hb dX6_turn_51 (by decide) ?_
          exact r_iret C0 hW ⟨by omega, by omega⟩ (by first | exact Or.inl (⟨(by have q := hp2; rcases q with ⟨t, t2⟩ | ⟨t1, t2, t3, t4⟩; exact t2; omega), (by first | omega | assumption | (simp only [hp4, hp8, hp13])), (by simp (decide := true) only [hw1, up_up, up_s, gA_s, gA_sn, gN_sF, gA_sS, gN_sS, sA_st, sF_sF, sF_sS, sS_sS, arr_s, arr_n, arr_S, gA_aI, if_true, if_false, true_and, and_true, false_and, and_false, recS_1, recS_4, recS_5, recS_6, gN_rec, gA_sx, iIt0, iIt1, hp4, hp8, hp13])⟩) | exact Or.inr (Or.inl (⟨(⟨z2, ⟨⟨by omega, by omega⟩, by have q := hp2; rcases q with ⟨t, t2⟩ | ⟨t1, t2, t3, t4⟩; (exfalso; omega); (exact ⟨t3, t4⟩)⟩, by omega, by first | omega | (simp only [hp4, hp8, hp13]) | (simp only [hp4, hp8, hp13]; omega), by simp (decide := true) only [hw1, up_up, up_s, gA_s, gA_sn, gN_sF, gA_sS, gN_sS, sA_st, sF_sF, sF_sS, sS_sS, arr_s, arr_n, arr_S, gA_aI, if_true, if_false, true_and, and_true, false_and, and_false, recS_1, recS_4, recS_5, recS_6, gN_rec, gA_sx, iIt0, iIt1, hp4, hp8, hp13]⟩), (rfl)⟩)) | exact Or.inr (Or.inr (Or.inl (⟨(⟨z2, ⟨⟨by omega, by omega⟩, by have q := hp2; rcases q with ⟨t, t2⟩ | ⟨t1, t2, t3, t4⟩; (exfalso; omega); (exact ⟨t3, t4⟩)⟩, by omega, by omega, by first | omega | (simp only [hp4, hp8, hp13]) | (simp only [hp4, hp8, hp13]; omega), by simp (decide := true) only [hw1, up_up, up_s, gA_s, gA_sn, gN_sF, gA_sS, gN_sS, sA_st, sF_sF, sF_sS, sS_sS, arr_s, arr_n, arr_S, gA_aI, if_true, if_false, true_and, and_true, false_and, and_false, recS_1, recS_4, recS_5, recS_6, gN_rec, gA_sx, iIt0, iIt1, hp4, hp8, hp13]⟩), (rfl)⟩))) | exact Or.inr (Or.inr (Or.inr (⟨(⟨z2, ⟨⟨by omega, by omega⟩, by have q := hp2; rcases q with ⟨t, t2⟩ | ⟨t1, t2, t3, t4⟩; (exfalso; omega); (exact ⟨t3, t4⟩)⟩, by omega, by omega, ez9, by simp (decide := true) only [hw1, up_up, up_s, gA_s, gA_sn, gN_sF, gA_sS, gN_sS, sA_st, sF_sF, sF_sS, sS_sS, arr_s, arr_n, arr_S, gA_aI, if_true, if_false, true_and, and_true, false_and, and_false, recS_1, recS_4, recS_5, recS_6, gN_rec, gA_sx, iIt0, iIt1, hp4, hp8, hp13]⟩), (rfl)⟩)))) dX6_turn_56
  · refine r_iconst hx hb dX6_turn_17 ?_
    exact r_iret C0 hW ⟨by omega, by omega⟩ (by first | exact Or.inl (⟨(by have q := hp2; rcases q with ⟨t, t2⟩ | ⟨t1, t2, t3, t4⟩; exact t2; omega), (by first | omega | assumption | (simp only [id])), (by simp (decide := true) only [hw1, up_up, up_s, gA_s, gA_sn, gN_sF, gA_sS, gN_sS, sA_st, sF_sF, sF_sS, sS_sS, arr_s, arr_n, arr_S, gA_aI, if_true, if_false, true_and, and_true, false_and, and_false, recS_1, recS_4, recS_5, recS_6, gN_rec, gA_sx, iIt0, iIt1, id])⟩) | exact Or.inr (Or.inl (⟨(⟨z2, ⟨⟨by omega, by omega⟩, by have q := hp2; rcases q with ⟨t, t2⟩ | ⟨t1, t2, t3, t4⟩; (exfalso; omega); (exact ⟨t3, t4⟩)⟩, by omega, by first | omega | (simp only [id]) | (simp only [id]; omega), by simp (decide := true) only [hw1, up_up, up_s, gA_s, gA_sn, gN_sF, gA_sS, gN_sS, sA_st, sF_sF, sF_sS, sS_sS, arr_s, arr_n, arr_S, gA_aI, if_true, if_false, true_and, and_true, false_and, and_false, recS_1, recS_4, recS_5, recS_6, gN_rec, gA_sx, iIt0, iIt1, id]⟩), (rfl)⟩)) | exact Or.inr (Or.inr (Or.inl (⟨(⟨z2, ⟨⟨by omega, by omega⟩, by have q := hp2; rcases q with ⟨t, t2⟩ | ⟨t1, t2, t3, t4⟩; (exfalso; omega); (exact ⟨t3, t4⟩)⟩, by omega, by omega, by first | omega | (simp only [id]) | (simp only [id]; omega), by simp (decide := true) only [hw1, up_up, up_s, gA_s, gA_sn, gN_sF, gA_sS, gN_sS, sA_st, sF_sF, sF_sS, sS_sS, arr_s, arr_n, arr_S, gA_aI, if_true, if_false, true_and, and_true, false_and, and_false, recS_1, recS_4, recS_5, recS_6, gN_rec, gA_sx, iIt0, iIt1, id]⟩), (rfl)⟩))) | exact Or.inr (Or.inr (Or.inr (⟨(⟨z2, ⟨⟨by omega, by omega⟩, by have q := hp2; rcases q with ⟨t, t2⟩ | ⟨t1, t2, t3, t4⟩; (exfalso; omega); (exact ⟨t3, t4⟩)⟩, by omega, by omega, ez9, by simp (decide := true) only [hw1, up_up, up_s, gA_s, gA_sn, gN_sF, gA_sS, gN_sS, sA_st, sF_sF, sF_sS, sS_sS, arr_s, arr_n, arr_S, gA_aI, if_true, if_false, true_and, and_true, false_and, and_false, recS_1, recS_4, recS_5, recS_6, gN_rec, gA_sx, iIt0, iIt1, id]⟩), (rfl)⟩)))) dX6_turn_18

/-- X6_stack: its end -/
def po_X6_stack (w : gW) (r : Int) : Int → gW → Prop := fun z w1 => ((nop ((w 10).1 1) r) ∧ (z = -1) ∧ (w1 = up w 10 (sS (w 10) 0 0 (iI 0)))) ∨ ((∃ pa : Int, plc ((w 10).1 1) r pa ∧ 20 < aI ((w 10).1 1) (101 + 6 * pa + 3) ∧ z = -4 ∧ w1 = up w 10 (sS (w 10) 0 0 (iI 0))) ∧ (w1 = w1)) ∨ ((∃ pa : Int, plc ((w 10).1 1) r pa ∧ ¬ 20 < aI ((w 10).1 1) (101 + 6 * pa + 3) ∧ aI ((w 10).1 1) (101 + 6 * pa + 5) = 1 ∧ z = -5 ∧ w1 = up w 10 (sS (w 10) 0 0 (iI 0))) ∧ (w1 = w1)) ∨ ((∃ pa : Int, plc ((w 10).1 1) r pa ∧ ¬ 20 < aI ((w 10).1 1) (101 + 6 * pa + 3) ∧ ¬ aI ((w 10).1 1) (101 + 6 * pa + 5) = 1 ∧ z = cntI (qWS (st ((w 10).1 1) (101 + 6 * pa + 5) (iI 1)) (aI ((w 10).1 1) (101 + 6 * pa + 1))) (aI ((w 10).1 1) 4) ∧ w1 = up w 10 (sF (recS (sS (w 10) 0 0 (iI 0))) 1 (st ((w 10).1 1) (101 + 6 * pa + 5) (iI 1)))) ∧ (w1 = w1))
theorem hdV_X6_stack : yX6_stack.cls = RX6 ∧ yX6_stack.cls ≠ "java/lang/invoke/MethodHandle" ∧ yX6_stack.cls ≠ "java/lang/invoke/VarHandle" ∧ (parseMethodDescriptor yX6_stack.desc).map (fun d => d.parameters.length) = some 1 := by decide +kernel
set_option maxHeartbeats 4000000 in
set_option maxRecDepth 100000 in
theorem c_X6_stack (l : Launch) (G : gG) (w : gW) (r : Int) (rr : inR r) (hM : mO w) : mI l G yX6_stack (wU yX6_stack cX6_stack 3 (some .int)) (rmL 2 46) [.ref (ad G 10 0), .int (iI r)] w (po_X6_stack w r) := by
  refine mI_of (by decide +kernel) (Nat.le_of_ble_eq_true rfl) (fun p e s m args below meth c ls C0 hW hl => ?_)
  have hl : lv_has ls 3 [(0, .ref (ad G 10 0)), (1, .int (iI r))] := hl
  have hx := C0.hx
  have hb := C0.hb
  obtain ⟨hwA, hop, hds, hsm, hln, hdy, hsk⟩ := id hM
  obtain ⟨hv1, hv2, hv3, hv4⟩ := id hwA
  refine lv_aload_n hx hb dX6_stack_0 rfl (lv_at hl 0 rfl) ?_
  refine r_iconst hx hb dX6_stack_1 ?_
  refine r_pI C0 hW (show 10 < 11 ∧ 0 < bs 10 from ⟨by decide, by decide⟩) rfl rfl hiX6 tyX6 tyX6_ok nmX6 (k := 0) (v := iI 0) (by decide) kf_X6_28 rfl rfl rfl (tyX6_ok 0 (by decide)) rfl rfl (by simp) rfl dX6_stack_2 (fun H1 locs1 hW => ?_)
  obtain ⟨w1, hw1⟩ : ∃ wq9 : gW, wq9 = up w 10 (sS (w 10) 0 0 (iI 0)) := ⟨_, rfl⟩
  rw [← hw1] at hW
  refine lv_aload_n hx hb dX6_stack_5 rfl (lv_at hl 0 rfl) ?_
  refine lv_iload_n hx hb dX6_stack_6 rfl (lv_at hl 1 rfl) ?_
  refine k_Vi (j := 10) (k0 := 0) C0 hW (c_X6_placeOf l G w1 r rr (by first | omega | (simp (decide := true) only [hw1, up_s, gA_s, gA_sn, gN_sF, gA_sS, gN_sS, sA_st, sF_sF, sF_sS, sS_sS, arr_s, arr_n, arr_S, gA_aI, if_true, if_false, true_and, and_true, false_and, and_false, recS_1, recS_4, recS_5, recS_6, gN_rec, gA_sx, iIt0, iIt1] <;> omega))) km_X6_96 ki_X6_placeOf ke_X6_placeOf kn_X6 kc_X6_placeOf rfl hdV_X6_placeOf ⟨by decide, by decide⟩ (show 10 < 11 ∧ 0 < bs 10 from ⟨by decide, by decide⟩) rfl rfl rfl hl.1 rfl (Nat.le_of_ble_eq_true rfl) dX6_stack_7 (fun z2 w2 H1 locs1 rz2 hp2 hW => ?_)
  obtain ⟨hp2, hq2⟩ := hp2
  subst hq2
  have rz2a := rz2.1
  have rz2b := rz2.2
  try simp (decide := true) only [hw1, up_s, gA_s, gA_sn, gN_sF, gA_sS, gN_sS, sA_st, sF_sF, sF_sS, sS_sS, arr_s, arr_n, arr_S, gA_aI, if_true, if_false, true_and, and_true, false_and, and_false, recS_1, recS_4, recS_5, recS_6, gN_rec, gA_sx, iIt0, iIt1] at hp2
  have hpz : z2 = -5 ∨ (0 ≤ z2 ∧ z2 < aI ((w 10).1 1) 4) := by rcases hp2 with ⟨t, -⟩ | ⟨t1, t2, -⟩ <;> omega
  refine lv_istore_n (lv' := [(2, .int (iI z2)), (0, .ref (ad G 10 0)), (1, .int (iI r))]) hx hb dX6_stack_10 rfl hl (by decide) rfl (fun ls hl => ?_)
  refine lv_iload_n hx hb dX6_stack_11 rfl (lv_at hl 0 rfl) ?_
  refine r_bipush hx hb dX6_stack_12 (by decide) ?_
  refine r_icmp_ne (tgt := 19) hx hb rz2 ⟨by omega, by omega⟩ dX6_stack_14 (by decide) (fun c3 => ?_) (fun c3 => ?_)
  · have hvw := hv2 z2 (by omega) (by omega)
    refine lv_aload_n hx hb dX6_stack_19 rfl (lv_at hl 1 rfl) ?_
    refine lv_iload_n hx hb dX6_stack_20 rfl (lv_at hl 0 rfl) ?_
    refine r_iconst hx hb dX6_stack_21 ?_
    refine k_Vi (j := 10) (k0 := 0) C0 hW (c_X6_ofRow l G w1 z2 3 rz2 ⟨by omega, by omega⟩ (by omega)) km_X6_36 ki_X6_ofRow ke_X6_ofRow kn_X6 kc_X6_ofRow rfl hdV_X6_ofRow ⟨by decide, by decide⟩ (show 10 < 11 ∧ 0 < bs 10 from ⟨by decide, by decide⟩) rfl rfl rfl hl.1 rfl (Nat.le_of_ble_eq_true rfl) dX6_stack_22 (fun z4 w4 H1 locs1 rz4 hp4 hW => ?_)
    obtain ⟨hp4, hq4⟩ := hp4
    subst hq4
    have rz4a := rz4.1
    have rz4b := rz4.2
    try simp (decide := true) only [hw1, up_s, gA_s, gA_sn, gN_sF, gA_sS, gN_sS, sA_st, sF_sF, sF_sS, sS_sS, arr_s, arr_n, arr_S, gA_aI, if_true, if_false, true_and, and_true, false_and, and_false, recS_1, recS_4, recS_5, recS_6, gN_rec, gA_sx, iIt0, iIt1] at hp4
    refine r_bipush hx hb dX6_stack_25 (by decide) ?_
    refine r_icmp_gt (tgt := 40) hx hb rz4 ⟨by omega, by omega⟩ dX6_stack_27 (by decide) (fun c5 => ?_) (fun c5 => ?_)
    · refine lv_aload_n hx hb dX6_stack_40 rfl (lv_at hl 1 rfl) ?_
      refine lv_iload_n hx hb dX6_stack_41 rfl (lv_at hl 0 rfl) ?_
      refine r_iconst hx hb dX6_stack_42 ?_
      refine k_Vi (j := 10) (k0 := 0) C0 hW (c_X6_ofRow l G w1 z2 3 rz2 ⟨by omega, by omega⟩ (by omega)) km_X6_36 ki_X6_ofRow ke_X6_ofRow kn_X6 kc_X6_ofRow rfl hdV_X6_ofRow ⟨by decide, by decide⟩ (show 10 < 11 ∧ 0 < bs 10 from ⟨by decide, by decide⟩) rfl rfl rfl hl.1 rfl (Nat.le_of_ble_eq_true rfl) dX6_stack_43 (fun z6 w6 H1 locs1 rz6 hp6 hW => ?_)
      obtain ⟨hp6, hq6⟩ := hp6
      subst hq6
      have rz6a := rz6.1
      have rz6b := rz6.2
      try simp (decide := true) only [hw1, up_s, gA_s, gA_sn, gN_sF, gA_sS, gN_sS, sA_st, sF_sF, sF_sS, sS_sS, arr_s, arr_n, arr_S, gA_aI, if_true, if_false, true_and, and_true, false_and, and_false, recS_1, recS_4, recS_5, recS_6, gN_rec, gA_sx, iIt0, iIt1] at hp6; (try simp only [hp4] at hp6)
      refine r_bipush hx hb dX6_stack_46 (by decide) ?_
      refine r_icmp_le (tgt := 56) hx hb rz6 ⟨by omega, by omega⟩ dX6_stack_48 (by decide) (fun c7 => ?_) (fun c7 => ?_)
      · refine r_bipush hx hb dX6_stack_56 (by decide) ?_
        exact r_iret C0 hW ⟨by omega, by omega⟩ (by first | exact Or.inl (⟨(by have q := hp2; rcases q with ⟨t, t2⟩ | ⟨t1, t2, t3, t4⟩; exact t2; omega), (by first | omega | assumption | (simp only [hp4, hp6])), (by simp (decide := true) only [hw1, up_up, up_s, gA_s, gA_sn, gN_sF, gA_sS, gN_sS, sA_st, sF_sF, sF_sS, sS_sS, arr_s, arr_n, arr_S, gA_aI, if_true, if_false, true_and, and_true, false_and, and_false, recS_1, recS_4, recS_5, recS_6, gN_rec, gA_sx, iIt0, iIt1, hp4, hp6])⟩) | exact Or.inr (Or.inl (⟨(⟨z2, ⟨⟨by omega, by omega⟩, by have q := hp2; rcases q with ⟨t, t2⟩ | ⟨t1, t2, t3, t4⟩; (exfalso; omega); (exact ⟨t3, t4⟩)⟩, by omega, by first | omega | (simp only [hp4, hp6]) | (simp only [hp4, hp6]; omega), by simp (decide := true) only [hw1, up_up, up_s, gA_s, gA_sn, gN_sF, gA_sS, gN_sS, sA_st, sF_sF, sF_sS, sS_sS, arr_s, arr_n, arr_S, gA_aI, if_true, if_false, true_and, and_true, false_and, and_false, recS_1, recS_4, recS_5, recS_6, gN_rec, gA_sx, iIt0, iIt1, hp4, hp6]⟩), (rfl)⟩)) | exact Or.inr (Or.inr (Or.inl (⟨(⟨z2, ⟨⟨by omega, by omega⟩, by have q := hp2; rcases q with ⟨t, t2⟩ | ⟨t1, t2, t3, t4⟩; (exfalso; omega); (exact ⟨t3, t4⟩)⟩, by omega, by omega, by first | omega | (simp only [hp4, hp6]) | (simp only [hp4, hp6]; omega), by simp (decide := true) only [hw1, up_up, up_s, gA_s, gA_sn, gN_sF, gA_sS, gN_sS, sA_st, sF_sF, sF_sS, sS_sS, arr_s, arr_n, arr_S, gA_aI, if_true, if_false, true_and, and_true, false_and, and_false, recS_1, recS_4, recS_5, recS_6, gN_rec, gA_sx, iIt0, iIt1, hp4, hp6]⟩), (rfl)⟩))) | exact Or.inr (Or.inr (Or.inr (⟨(⟨z2, ⟨⟨by omega, by omega⟩, by have q := hp2; rcases q with ⟨t, t2⟩ | ⟨t1, t2, t3, t4⟩; (exfalso; omega); (exact ⟨t3, t4⟩)⟩, by omega, by omega, ez9, by simp (decide := true) only [hw1, up_up, up_s, gA_s, gA_sn, gN_sF, gA_sS, gN_sS, sA_st, sF_sF, sF_sS, sS_sS, arr_s, arr_n, arr_S, gA_aI, if_true, if_false, true_and, and_true, false_and, and_false, recS_1, recS_4, recS_5, recS_6, gN_rec, gA_sx, iIt0, iIt1, hp4, hp6]⟩), (rfl)⟩)))) dX6_stack_58
      · refine r_bipush hx hb dX6_stack_51 (by decide) ?_
        refine lv_goto (tgt := 58) hx hb dX6_stack_53 (by decide) ?_
        exact r_iret C0 hW ⟨by omega, by omega⟩ (by first | exact Or.inl (⟨(by have q := hp2; rcases q with ⟨t, t2⟩ | ⟨t1, t2, t3, t4⟩; exact t2; omega), (by first | omega | assumption | (simp only [hp4, hp6])), (by simp (decide := true) only [hw1, up_up, up_s, gA_s, gA_sn, gN_sF, gA_sS, gN_sS, sA_st, sF_sF, sF_sS, sS_sS, arr_s, arr_n, arr_S, gA_aI, if_true, if_false, true_and, and_true, false_and, and_false, recS_1, recS_4, recS_5, recS_6, gN_rec, gA_sx, iIt0, iIt1, hp4, hp6])⟩) | exact Or.inr (Or.inl (⟨(⟨z2, ⟨⟨by omega, by omega⟩, by have q := hp2; rcases q with ⟨t, t2⟩ | ⟨t1, t2, t3, t4⟩; (exfalso; omega); (exact ⟨t3, t4⟩)⟩, by omega, by first | omega | (simp only [hp4, hp6]) | (simp only [hp4, hp6]; omega), by simp (decide := true) only [hw1, up_up, up_s, gA_s, gA_sn, gN_sF, gA_sS, gN_sS, sA_st, sF_sF, sF_sS, sS_sS, arr_s, arr_n, arr_S, gA_aI, if_true, if_false, true_and, and_true, false_and, and_false, recS_1, recS_4, recS_5, recS_6, gN_rec, gA_sx, iIt0, iIt1, hp4, hp6]⟩), (rfl)⟩)) | exact Or.inr (Or.inr (Or.inl (⟨(⟨z2, ⟨⟨by omega, by omega⟩, by have q := hp2; rcases q with ⟨t, t2⟩ | ⟨t1, t2, t3, t4⟩; (exfalso; omega); (exact ⟨t3, t4⟩)⟩, by omega, by omega, by first | omega | (simp only [hp4, hp6]) | (simp only [hp4, hp6]; omega), by simp (decide := true) only [hw1, up_up, up_s, gA_s, gA_sn, gN_sF, gA_sS, gN_sS, sA_st, sF_sF, sF_sS, sS_sS, arr_s, arr_n, arr_S, gA_aI, if_true, if_false, true_and, and_true, false_and, and_false, recS_1, recS_4, recS_5, recS_6, gN_rec, gA_sx, iIt0, iIt1, hp4, hp6]⟩), (rfl)⟩))) | exact Or.inr (Or.inr (Or.inr (⟨(⟨z2, ⟨⟨by omega, by omega⟩, by have q := hp2; rcases q with ⟨t, t2⟩ | ⟨t1, t2, t3, t4⟩; (exfalso; omega); (exact ⟨t3, t4⟩)⟩, by omega, by omega, ez9, by simp (decide := true) only [hw1, up_up, up_s, gA_s, gA_sn, gN_sF, gA_sS, gN_sS, sA_st, sF_sF, sF_sS, sS_sS, arr_s, arr_n, arr_S, gA_aI, if_true, if_false, true_and, and_true, false_and, and_false, recS_1, recS_4, recS_5, recS_6, gN_rec, gA_sx, iIt0, iIt1, hp4, hp6]⟩), (rfl)⟩)))) dX6_stack_58
    · refine lv_aload_n hx hb dX6_stack_30 rfl (lv_at hl 1 rfl) ?_
      refine lv_iload_n hx hb dX6_stack_31 rfl (lv_at hl 0 rfl) ?_
      refine r_iconst hx hb dX6_stack_32 ?_
      refine k_Vi (j := 10) (k0 := 0) C0 hW (c_X6_ofRow l G w1 z2 5 rz2 ⟨by omega, by omega⟩ (by omega)) km_X6_36 ki_X6_ofRow ke_X6_ofRow kn_X6 kc_X6_ofRow rfl hdV_X6_ofRow ⟨by decide, by decide⟩ (show 10 < 11 ∧ 0 < bs 10 from ⟨by decide, by decide⟩) rfl rfl rfl hl.1 rfl (Nat.le_of_ble_eq_true rfl) dX6_stack_33 (fun z8 w8 H1 locs1 rz8 hp8 hW => ?_)
      obtain ⟨hp8, hq8⟩ := hp8
      subst hq8
      have rz8a := rz8.1
      have rz8b := rz8.2
      try simp (decide := true) only [hw1, up_s, gA_s, gA_sn, gN_sF, gA_sS, gN_sS, sA_st, sF_sF, sF_sS, sS_sS, arr_s, arr_n, arr_S, gA_aI, if_true, if_false, true_and, and_true, false_and, and_false, recS_1, recS_4, recS_5, recS_6, gN_rec, gA_sx, iIt0, iIt1] at hp8; (try simp only [hp4] at hp8)
      refine r_iconst hx hb dX6_stack_36 ?_
      refine r_icmp_ne (tgt := 59) hx hb rz8 ⟨by omega, by omega⟩ dX6_stack_37 (by decide) (fun c9 => ?_) (fun c9 => ?_)
      · refine lv_aload_n hx hb dX6_stack_59 rfl (lv_at hl 1 rfl) ?_
        refine k_Vv (j := 10) (k0 := 0) C0 hW (c_X6_records l G w1 (by first | omega | (simp (decide := true) only [hw1, up_s, gA_s, gA_sn, gN_sF, gA_sS, gN_sS, sA_st, sF_sF, sF_sS, sS_sS, arr_s, arr_n, arr_S, gA_aI, if_true, if_false, true_and, and_true, false_and, and_false, recS_1, recS_4, recS_5, recS_6, gN_rec, gA_sx, iIt0, iIt1] <;> omega))) km_X6_80 ki_X6_records ke_X6_records kn_X6 kc_X6_records rfl hdV_X6_records ⟨by decide, by decide⟩ (show 10 < 11 ∧ 0 < bs 10 from ⟨by decide, by decide⟩) rfl rfl rfl hl.1 rfl (Nat.le_of_ble_eq_true rfl) dX6_stack_60 (fun w10 H1 locs1 hp10 hW => ?_)
        have hw10 : w10 = _ := hp10
        refine lv_aload_n hx hb dX6_stack_63 rfl (lv_at hl 1 rfl) ?_
        refine lv_iload_n hx hb dX6_stack_64 rfl (lv_at hl 0 rfl) ?_
        refine r_iconst hx hb dX6_stack_65 ?_
        refine r_iconst hx hb dX6_stack_66 ?_
        refine k_Vv (j := 10) (k0 := 0) C0 hW (c_X6_layRow l G w10 z2 5 1 rz2 ⟨by omega, by omega⟩ ⟨by omega, by omega⟩ (by omega)) km_X6_46 ki_X6_layRow ke_X6_layRow kn_X6 kc_X6_layRow rfl hdV_X6_layRow ⟨by decide, by decide⟩ (show 10 < 11 ∧ 0 < bs 10 from ⟨by decide, by decide⟩) rfl rfl rfl hl.1 rfl (Nat.le_of_ble_eq_true rfl) dX6_stack_67 (fun w11 H1 locs1 hp11 hW => ?_)
        have hw11 : w11 = _ := hp11
        refine lv_aload_n hx hb dX6_stack_70 rfl (lv_at hl 1 rfl) ?_
        refine lv_aload_n hx hb dX6_stack_71 rfl (lv_at hl 1 rfl) ?_
        refine lv_iload_n hx hb dX6_stack_72 rfl (lv_at hl 0 rfl) ?_
        refine r_iconst hx hb dX6_stack_73 ?_
        refine k_Vi (j := 10) (k0 := 0) C0 hW (c_X6_ofRow l G w11 z2 1 rz2 ⟨by omega, by omega⟩ (by omega)) km_X6_36 ki_X6_ofRow ke_X6_ofRow kn_X6 kc_X6_ofRow rfl hdV_X6_ofRow ⟨by decide, by decide⟩ (show 10 < 11 ∧ 0 < bs 10 from ⟨by decide, by decide⟩) rfl rfl rfl hl.1 rfl (Nat.le_of_ble_eq_true rfl) dX6_stack_74 (fun z12 w12 H1 locs1 rz12 hp12 hW => ?_)
        obtain ⟨hp12, hq12⟩ := hp12
        subst hq12
        have rz12a := rz12.1
        have rz12b := rz12.2
        try simp (decide := true) only [hw11, hw10, hw1, up_s, gA_s, gA_sn, gN_sF, gA_sS, gN_sS, sA_st, sF_sF, sF_sS, sS_sS, arr_s, arr_n, arr_S, gA_aI, if_true, if_false, true_and, and_true, false_and, and_false, recS_1, recS_4, recS_5, recS_6, gN_rec, gA_sx, iIt0, iIt1] at hp12; (try simp only [hp4, hp8] at hp12)
        have ez8 : z12 = aI ((w 10).1 1) (101 + 6 * z2 + 1) := by have q := hp12; rw [aI_n _ _ (by omega)] at q; exact q
        have hl9 : aI (st ((w 10).1 1) (101 + 6 * z2 + 5) (iI 1)) 4 = aI ((w 10).1 1) 4 := aI_n _ _ (by omega)
        refine r_iconst hx hb dX6_stack_77 ?_
        refine k_Vi (j := 10) (k0 := 0) C0 hW (c_X6_rowsOf l G w11 z12 1 rz12 ⟨by omega, by omega⟩ (by first | omega | (simp (decide := true) only [hw11, hw10, hw1, up_s, gA_s, gA_sn, gN_sF, gA_sS, gN_sS, sA_st, sF_sF, sF_sS, sS_sS, arr_s, arr_n, arr_S, gA_aI, if_true, if_false, true_and, and_true, false_and, and_false, recS_1, recS_4, recS_5, recS_6, gN_rec, gA_sx, iIt0, iIt1] <;> omega)) (by omega)) km_X6_99 ki_X6_rowsOf ke_X6_rowsOf kn_X6 kc_X6_rowsOf rfl hdV_X6_rowsOf ⟨by decide, by decide⟩ (show 10 < 11 ∧ 0 < bs 10 from ⟨by decide, by decide⟩) rfl rfl rfl hl.1 rfl (Nat.le_of_ble_eq_true rfl) dX6_stack_78 (fun z13 w13 H1 locs1 rz13 hp13 hW => ?_)
        obtain ⟨hp13, hq13⟩ := hp13
        subst hq13
        have rz13a := rz13.1
        have rz13b := rz13.2
        try simp (decide := true) only [hw11, hw10, hw1, up_s, gA_s, gA_sn, gN_sF, gA_sS, gN_sS, sA_st, sF_sF, sF_sS, sS_sS, arr_s, arr_n, arr_S, gA_aI, if_true, if_false, true_and, and_true, false_and, and_false, recS_1, recS_4, recS_5, recS_6, gN_rec, gA_sx, iIt0, iIt1] at hp13; (try simp only [hp4, hp8, hp12] at hp13)
        have ez9 : z13 = cntI (qWS (st ((w 10).1 1) (101 + 6 * z2 + 5) (iI 1)) (aI ((w 10).1 1) (101 + 6 * z2 + 1))) (aI ((w 10).1 1) 4) := by have q := hp13; rw [show aI (st ((w 10).1 1) (101 + 6 * z2 + 5) (iI 1)) (101 + 6 * z2 + 1) = aI ((w 10).1 1) (101 + 6 * z2 + 1) from aI_n _ _ (by omega), hl9] at q; simpa (decide := true) only [false_and, true_and, false_or, true_or, or_false] using q
        exact r_iret C0 hW rz13 (by first | exact Or.inl (⟨(by have q := hp2; rcases q with ⟨t, t2⟩ | ⟨t1, t2, t3, t4⟩; exact t2; omega), (by first | omega | assumption | (simp only [hp4, hp8, hp12])), (by simp (decide := true) only [hw11, hw10, hw1, up_up, up_s, gA_s, gA_sn, gN_sF, gA_sS, gN_sS, sA_st, sF_sF, sF_sS, sS_sS, arr_s, arr_n, arr_S, gA_aI, if_true, if_false, true_and, and_true, false_and, and_false, recS_1, recS_4, recS_5, recS_6, gN_rec, gA_sx, iIt0, iIt1, hp4, hp8, hp12])⟩) | exact Or.inr (Or.inl (⟨(⟨z2, ⟨⟨by omega, by omega⟩, by have q := hp2; rcases q with ⟨t, t2⟩ | ⟨t1, t2, t3, t4⟩; (exfalso; omega); (exact ⟨t3, t4⟩)⟩, by omega, by first | omega | (simp only [hp4, hp8, hp12]) | (simp only [hp4, hp8, hp12]; omega), by simp (decide := true) only [hw11, hw10, hw1, up_up, up_s, gA_s, gA_sn, gN_sF, gA_sS, gN_sS, sA_st, sF_sF, sF_sS, sS_sS, arr_s, arr_n, arr_S, gA_aI, if_true, if_false, true_and, and_true, false_and, and_false, recS_1, recS_4, recS_5, recS_6, gN_rec, gA_sx, iIt0, iIt1, hp4, hp8, hp12]⟩), (rfl)⟩)) | exact Or.inr (Or.inr (Or.inl (⟨(⟨z2, ⟨⟨by omega, by omega⟩, by have q := hp2; rcases q with ⟨t, t2⟩ | ⟨t1, t2, t3, t4⟩; (exfalso; omega); (exact ⟨t3, t4⟩)⟩, by omega, by omega, by first | omega | (simp only [hp4, hp8, hp12]) | (simp only [hp4, hp8, hp12]; omega), by simp (decide := true) only [hw11, hw10, hw1, up_up, up_s, gA_s, gA_sn, gN_sF, gA_sS, gN_sS, sA_st, sF_sF, sF_sS, sS_sS, arr_s, arr_n, arr_S, gA_aI, if_true, if_false, true_and, and_true, false_and, and_false, recS_1, recS_4, recS_5, recS_6, gN_rec, gA_sx, iIt0, iIt1, hp4, hp8, hp12]⟩), (rfl)⟩))) | exact Or.inr (Or.inr (Or.inr (⟨(⟨z2, ⟨⟨by omega, by omega⟩, by have q := hp2; rcases q with ⟨t, t2⟩ | ⟨t1, t2, t3, t4⟩; (exfalso; omega); (exact ⟨t3, t4⟩)⟩, by omega, by omega, ez9, by simp (decide := true) only [hw11, hw10, hw1, up_up, up_s, gA_s, gA_sn, gN_sF, gA_sS, gN_sS, sA_st, sF_sF, sF_sS, sS_sS, arr_s, arr_n, arr_S, gA_aI, if_true, if_false, true_and, and_true, false_and, and_false, recS_1, recS_4, recS_5, recS_6, gN_rec, gA_sx, iIt0, iIt1, hp4, hp8, hp12]⟩), (rfl)⟩)))) dX6_stack_81
      · refine lv_aload_n hx hb dX6_stack_40 rfl (lv_at hl 1 rfl) ?_
        refine lv_iload_n hx hb dX6_stack_41 rfl (lv_at hl 0 rfl) ?_
        refine r_iconst hx hb dX6_stack_42 ?_
        refine k_Vi (j := 10) (k0 := 0) C0 hW (c_X6_ofRow l G w1 z2 3 rz2 ⟨by omega, by omega⟩ (by omega)) km_X6_36 ki_X6_ofRow ke_X6_ofRow kn_X6 kc_X6_ofRow rfl hdV_X6_ofRow ⟨by decide, by decide⟩ (show 10 < 11 ∧ 0 < bs 10 from ⟨by decide, by decide⟩) rfl rfl rfl hl.1 rfl (Nat.le_of_ble_eq_true rfl) dX6_stack_43 (fun z14 w14 H1 locs1 rz14 hp14 hW => ?_)
        obtain ⟨hp14, hq14⟩ := hp14
        subst hq14
        have rz14a := rz14.1
        have rz14b := rz14.2
        try simp (decide := true) only [hw1, up_s, gA_s, gA_sn, gN_sF, gA_sS, gN_sS, sA_st, sF_sF, sF_sS, sS_sS, arr_s, arr_n, arr_S, gA_aI, if_true, if_false, true_and, and_true, false_and, and_false, recS_1, recS_4, recS_5, recS_6, gN_rec, gA_sx, iIt0, iIt1] at hp14; (try simp only [hp4, hp8] at hp14)
        refine r_bipush hx hb dX6_stack_46 (by decide) ?_
        refine r_icmp_le (tgt := 56) hx hb rz14 ⟨by omega, by omega⟩ dX6_stack_48 (by decide) (fun c15 => ?_) (fun c15 => ?_)
        · refine r_bipush hx hb dX6_stack_56 (by decide) ?_
          exact r_iret C0 hW ⟨by omega, by omega⟩ (by first | exact Or.inl (⟨(by have q := hp2; rcases q with ⟨t, t2⟩ | ⟨t1, t2, t3, t4⟩; exact t2; omega), (by first | omega | assumption | (simp only [hp4, hp8, hp14])), (by simp (decide := true) only [hw1, up_up, up_s, gA_s, gA_sn, gN_sF, gA_sS, gN_sS, sA_st, sF_sF, sF_sS, sS_sS, arr_s, arr_n, arr_S, gA_aI, if_true, if_false, true_and, and_true, false_and, and_false, recS_1, recS_4, recS_5, recS_6, gN_rec, gA_sx, iIt0, iIt1, hp4, hp8, hp14])⟩) | exact Or.inr (Or.inl (⟨(⟨z2, ⟨⟨by omega, by omega⟩, by have q := hp2; rcases q with ⟨t, t2⟩ | ⟨t1, t2, t3, t4⟩; (exfalso; omega); (exact ⟨t3, t4⟩)⟩, by omega, by first | omega | (simp only [hp4, hp8, hp14]) | (simp only [hp4, hp8, hp14]; omega), by simp (decide := true) only [hw1, up_up, up_s, gA_s, gA_sn, gN_sF, gA_sS, gN_sS, sA_st, sF_sF, sF_sS, sS_sS, arr_s, arr_n, arr_S, gA_aI, if_true, if_false, true_and, and_true, false_and, and_false, recS_1, recS_4, recS_5, recS_6, gN_rec, gA_sx, iIt0, iIt1, hp4, hp8, hp14]⟩), (rfl)⟩)) | exact Or.inr (Or.inr (Or.inl (⟨(⟨z2, ⟨⟨by omega, by omega⟩, by have q := hp2; rcases q with ⟨t, t2⟩ | ⟨t1, t2, t3, t4⟩; (exfalso; omega); (exact ⟨t3, t4⟩)⟩, by omega, by omega, by first | omega | (simp only [hp4, hp8, hp14]) | (simp only [hp4, hp8, hp14]; omega), by simp (decide := true) only [hw1, up_up, up_s, gA_s, gA_sn, gN_sF, gA_sS, gN_sS, sA_st, sF_sF, sF_sS, sS_sS, arr_s, arr_n, arr_S, gA_aI, if_true, if_false, true_and, and_true, false_and, and_false, recS_1, recS_4, recS_5, recS_6, gN_rec, gA_sx, iIt0, iIt1, hp4, hp8, hp14]⟩), (rfl)⟩))) | exact Or.inr (Or.inr (Or.inr (⟨(⟨z2, ⟨⟨by omega, by omega⟩, by have q := hp2; rcases q with ⟨t, t2⟩ | ⟨t1, t2, t3, t4⟩; (exfalso; omega); (exact ⟨t3, t4⟩)⟩, by omega, by omega, ez9, by simp (decide := true) only [hw1, up_up, up_s, gA_s, gA_sn, gN_sF, gA_sS, gN_sS, sA_st, sF_sF, sF_sS, sS_sS, arr_s, arr_n, arr_S, gA_aI, if_true, if_false, true_and, and_true, false_and, and_false, recS_1, recS_4, recS_5, recS_6, gN_rec, gA_sx, iIt0, iIt1, hp4, hp8, hp14]⟩), (rfl)⟩)))) dX6_stack_58
        · refine r_bipush hx hb dX6_stack_51 (by decide) ?_
          refine lv_goto (tgt := 58) hx hb dX6_stack_53 (by decide) ?_
          exact r_iret C0 hW ⟨by omega, by omega⟩ (by first | exact Or.inl (⟨(by have q := hp2; rcases q with ⟨t, t2⟩ | ⟨t1, t2, t3, t4⟩; exact t2; omega), (by first | omega | assumption | (simp only [hp4, hp8, hp14])), (by simp (decide := true) only [hw1, up_up, up_s, gA_s, gA_sn, gN_sF, gA_sS, gN_sS, sA_st, sF_sF, sF_sS, sS_sS, arr_s, arr_n, arr_S, gA_aI, if_true, if_false, true_and, and_true, false_and, and_false, recS_1, recS_4, recS_5, recS_6, gN_rec, gA_sx, iIt0, iIt1, hp4, hp8, hp14])⟩) | exact Or.inr (Or.inl (⟨(⟨z2, ⟨⟨by omega, by omega⟩, by have q := hp2; rcases q with ⟨t, t2⟩ | ⟨t1, t2, t3, t4⟩; (exfalso; omega); (exact ⟨t3, t4⟩)⟩, by omega, by first | omega | (simp only [hp4, hp8, hp14]) | (simp only [hp4, hp8, hp14]; omega), by simp (decide := true) only [hw1, up_up, up_s, gA_s, gA_sn, gN_sF, gA_sS, gN_sS, sA_st, sF_sF, sF_sS, sS_sS, arr_s, arr_n, arr_S, gA_aI, if_true, if_false, true_and, and_true, false_and, and_false, recS_1, recS_4, recS_5, recS_6, gN_rec, gA_sx, iIt0, iIt1, hp4, hp8, hp14]⟩), (rfl)⟩)) | exact Or.inr (Or.inr (Or.inl (⟨(⟨z2, ⟨⟨by omega, by omega⟩, by have q := hp2; rcases q with ⟨t, t2⟩ | ⟨t1, t2, t3, t4⟩; (exfalso; omega); (exact ⟨t3, t4⟩)⟩, by omega, by omega, by first | omega | (simp only [hp4, hp8, hp14]) | (simp only [hp4, hp8, hp14]; omega), by simp (decide := true) only [hw1, up_up, up_s, gA_s, gA_sn, gN_sF, gA_sS, gN_sS, sA_st, sF_sF, sF_sS, sS_sS, arr_s, arr_n, arr_S, gA_aI, if_true, if_false, true_and, and_true, false_and, and_false, recS_1, recS_4, recS_5, recS_6, gN_rec, gA_sx, iIt0, iIt1, hp4, hp8, hp14]⟩), (rfl)⟩))) | exact Or.inr (Or.inr (Or.inr (⟨(⟨z2, ⟨⟨by omega, by omega⟩, by have q := hp2; rcases q with ⟨t, t2⟩ | ⟨t1, t2, t3, t4⟩; (exfalso; omega); (exact ⟨t3, t4⟩)⟩, by omega, by omega, ez9, by simp (decide := true) only [hw1, up_up, up_s, gA_s, gA_sn, gN_sF, gA_sS, gN_sS, sA_st, sF_sF, sF_sS, sS_sS, arr_s, arr_n, arr_S, gA_aI, if_true, if_false, true_and, and_true, false_and, and_false, recS_1, recS_4, recS_5, recS_6, gN_rec, gA_sx, iIt0, iIt1, hp4, hp8, hp14]⟩), (rfl)⟩)))) dX6_stack_58
  · refine r_iconst hx hb dX6_stack_17 ?_
    exact r_iret C0 hW ⟨by omega, by omega⟩ (by first | exact Or.inl (⟨(by have q := hp2; rcases q with ⟨t, t2⟩ | ⟨t1, t2, t3, t4⟩; exact t2; omega), (by first | omega | assumption | (simp only [id])), (by simp (decide := true) only [hw1, up_up, up_s, gA_s, gA_sn, gN_sF, gA_sS, gN_sS, sA_st, sF_sF, sF_sS, sS_sS, arr_s, arr_n, arr_S, gA_aI, if_true, if_false, true_and, and_true, false_and, and_false, recS_1, recS_4, recS_5, recS_6, gN_rec, gA_sx, iIt0, iIt1, id])⟩) | exact Or.inr (Or.inl (⟨(⟨z2, ⟨⟨by omega, by omega⟩, by have q := hp2; rcases q with ⟨t, t2⟩ | ⟨t1, t2, t3, t4⟩; (exfalso; omega); (exact ⟨t3, t4⟩)⟩, by omega, by first | omega | (simp only [id]) | (simp only [id]; omega), by simp (decide := true) only [hw1, up_up, up_s, gA_s, gA_sn, gN_sF, gA_sS, gN_sS, sA_st, sF_sF, sF_sS, sS_sS, arr_s, arr_n, arr_S, gA_aI, if_true, if_false, true_and, and_true, false_and, and_false, recS_1, recS_4, recS_5, recS_6, gN_rec, gA_sx, iIt0, iIt1, id]⟩), (rfl)⟩)) | exact Or.inr (Or.inr (Or.inl (⟨(⟨z2, ⟨⟨by omega, by omega⟩, by have q := hp2; rcases q with ⟨t, t2⟩ | ⟨t1, t2, t3, t4⟩; (exfalso; omega); (exact ⟨t3, t4⟩)⟩, by omega, by omega, by first | omega | (simp only [id]) | (simp only [id]; omega), by simp (decide := true) only [hw1, up_up, up_s, gA_s, gA_sn, gN_sF, gA_sS, gN_sS, sA_st, sF_sF, sF_sS, sS_sS, arr_s, arr_n, arr_S, gA_aI, if_true, if_false, true_and, and_true, false_and, and_false, recS_1, recS_4, recS_5, recS_6, gN_rec, gA_sx, iIt0, iIt1, id]⟩), (rfl)⟩))) | exact Or.inr (Or.inr (Or.inr (⟨(⟨z2, ⟨⟨by omega, by omega⟩, by have q := hp2; rcases q with ⟨t, t2⟩ | ⟨t1, t2, t3, t4⟩; (exfalso; omega); (exact ⟨t3, t4⟩)⟩, by omega, by omega, ez9, by simp (decide := true) only [hw1, up_up, up_s, gA_s, gA_sn, gN_sF, gA_sS, gN_sS, sA_st, sF_sF, sF_sS, sS_sS, arr_s, arr_n, arr_S, gA_aI, if_true, if_false, true_and, and_true, false_and, and_false, recS_1, recS_4, recS_5, recS_6, gN_rec, gA_sx, iIt0, iIt1, id]⟩), (rfl)⟩)))) dX6_stack_18

/-- X6_opensDispute: its end -/
def po_X6_opensDispute (w : gW) (co : Int) (pl : Int) (r : Int) : gW → Prop := fun w1 => w1 = up w 10 (sF (w 10) 1 (opA ((w 10).1 1) co pl r))
theorem hdV_X6_opensDispute : yX6_opensDispute.cls = RX6 ∧ yX6_opensDispute.cls ≠ "java/lang/invoke/MethodHandle" ∧ yX6_opensDispute.cls ≠ "java/lang/invoke/VarHandle" ∧ (parseMethodDescriptor yX6_opensDispute.desc).map (fun d => d.parameters.length) = some 3 := by decide +kernel
set_option maxHeartbeats 4000000 in
set_option maxRecDepth 100000 in
theorem c_X6_opensDispute (l : Launch) (G : gG) (w : gW) (co : Int) (pl : Int) (r : Int) (rco : inR co) (rpl : inR pl) (rr : inR r) (hpl9 : 0 ≤ pl ∧ pl ≤ 19) (hop9 : 0 ≤ aI ((w 10).1 1) 7 ∧ aI ((w 10).1 1) 7 < 120) : mV l G yX6_opensDispute (wU yX6_opensDispute cX6_opensDispute 5 none) (rmL 1 22) [.ref (ad G 10 0), .int (iI co), .int (iI pl), .int (iI r)] w (po_X6_opensDispute w co pl r) := by
  refine mV_of (by decide +kernel) (Nat.le_of_ble_eq_true rfl) (fun p e s m args below meth c ls C0 hW hl => ?_)
  have hl : lv_has ls 5 [(0, .ref (ad G 10 0)), (1, .int (iI co)), (2, .int (iI pl)), (3, .int (iI r))] := hl
  have hx := C0.hx
  have hb := C0.hb
  refine r_sipush hx hb dX6_opensDispute_0 (by decide) ?_
  refine r_iconst hx hb dX6_opensDispute_3 ?_
  refine lv_aload_n hx hb dX6_opensDispute_4 rfl (lv_at hl 0 rfl) ?_
  refine r_gR C0 hW (show 10 < 11 ∧ 0 < bs 10 from ⟨by decide, by decide⟩) rfl rfl hiX6 (k := 1) (by decide) kf_X6_7 rfl rfl rfl dX6_opensDispute_5 ?_
  refine r_bipush hx hb dX6_opensDispute_8 (by decide) ?_
  refine r_ild C0 hW (show 10 < 11 ∧ 1 < bs 10 from ⟨by decide, by decide⟩) rfl (n := 941) (by omega) (by omega) (by omega) dX6_opensDispute_10 (fun z1 (hz1 : z1 = gA (w 10) 1 7) rz1 => ?_)
  have rz1a := rz1.1
  have rz1b := rz1.2
  try simp (decide := true) only [id, up_s, gA_s, gA_sn, gN_sF, gA_sS, gN_sS, sA_st, sF_sF, sF_sS, sS_sS, arr_s, arr_n, arr_S, gA_aI, if_true, if_false, true_and, and_true, false_and, and_false] at hz1
  refine r_imul hx hb dX6_opensDispute_11 ?_
  refine r_iadd hx hb dX6_opensDispute_12 ?_
  refine lv_istore (lv' := [(4, .int (iI (461 + (4 * z1)))), (0, .ref (ad G 10 0)), (1, .int (iI co)), (2, .int (iI pl)), (3, .int (iI r))]) hx hb dX6_opensDispute_13 hl (by decide) rfl (fun ls hl => ?_)
  refine lv_aload_n hx hb dX6_opensDispute_15 rfl (lv_at hl 1 rfl) ?_
  refine r_gR C0 hW (show 10 < 11 ∧ 0 < bs 10 from ⟨by decide, by decide⟩) rfl rfl hiX6 (k := 1) (by decide) kf_X6_7 rfl rfl rfl dX6_opensDispute_16 ?_
  refine lv_iload hx hb dX6_opensDispute_19 (lv_at hl 0 rfl) ?_
  refine r_iconst hx hb dX6_opensDispute_21 ?_
  refine r_iadd hx hb dX6_opensDispute_22 ?_
  refine lv_iload_n hx hb dX6_opensDispute_23 rfl (lv_at hl 2 rfl) ?_
  refine r_ist C0 hW (show 10 < 11 ∧ 1 < bs 10 from ⟨by decide, by decide⟩) (fun A => rfl) (n := 941) (v := iI co) (by omega) (by omega) (by decide) dX6_opensDispute_24 (fun H1 locs1 hW => ?_)
  obtain ⟨w2, hw2⟩ : ∃ wq9 : gW, wq9 = up w 10 (sA (w 10) 1 ((461 + (4 * z1)) + 0) (iI co)) := ⟨_, rfl⟩
  rw [← hw2] at hW
  refine lv_aload_n hx hb dX6_opensDispute_25 rfl (lv_at hl 1 rfl) ?_
  refine r_gR C0 hW (show 10 < 11 ∧ 0 < bs 10 from ⟨by decide, by decide⟩) rfl rfl hiX6 (k := 1) (by decide) kf_X6_7 rfl rfl rfl dX6_opensDispute_26 ?_
  refine lv_iload hx hb dX6_opensDispute_29 (lv_at hl 0 rfl) ?_
  refine r_iconst hx hb dX6_opensDispute_31 ?_
  refine r_iadd hx hb dX6_opensDispute_32 ?_
  refine lv_aload_n hx hb dX6_opensDispute_33 rfl (lv_at hl 1 rfl) ?_
  refine lv_iload_n hx hb dX6_opensDispute_34 rfl (lv_at hl 3 rfl) ?_
  refine r_iconst hx hb dX6_opensDispute_35 ?_
  refine k_Vi (j := 10) (k0 := 0) C0 hW (c_X6_ofPlot l G w2 pl 2 rpl ⟨by omega, by omega⟩ (by omega)) km_X6_77 ki_X6_ofPlot ke_X6_ofPlot kn_X6 kc_X6_ofPlot rfl hdV_X6_ofPlot ⟨by decide, by decide⟩ (show 10 < 11 ∧ 0 < bs 10 from ⟨by decide, by decide⟩) rfl rfl rfl hl.1 rfl (Nat.le_of_ble_eq_true rfl) dX6_opensDispute_36 (fun z3 w3 H1 locs1 rz3 hp3 hW => ?_)
  obtain ⟨hp3, hq3⟩ := hp3
  subst hq3
  have rz3a := rz3.1
  have rz3b := rz3.2
  try simp (decide := true) only [hw2, up_s, gA_s, gA_sn, gN_sF, gA_sS, gN_sS, sA_st, sF_sF, sF_sS, sS_sS, arr_s, arr_n, arr_S, gA_aI, if_true, if_false, true_and, and_true, false_and, and_false] at hp3; (try simp only [hz1] at hp3)
  refine r_ist C0 hW (show 10 < 11 ∧ 1 < bs 10 from ⟨by decide, by decide⟩) (fun A => rfl) (n := 941) (v := iI z3) (by omega) (by omega) (by decide) dX6_opensDispute_39 (fun H1 locs1 hW => ?_)
  obtain ⟨w4, hw4⟩ : ∃ wq9 : gW, wq9 = up w2 10 (sA (w2 10) 1 ((461 + (4 * z1)) + 1) (iI z3)) := ⟨_, rfl⟩
  rw [← hw4] at hW
  refine lv_aload_n hx hb dX6_opensDispute_40 rfl (lv_at hl 1 rfl) ?_
  refine r_gR C0 hW (show 10 < 11 ∧ 0 < bs 10 from ⟨by decide, by decide⟩) rfl rfl hiX6 (k := 1) (by decide) kf_X6_7 rfl rfl rfl dX6_opensDispute_41 ?_
  refine lv_iload hx hb dX6_opensDispute_44 (lv_at hl 0 rfl) ?_
  refine r_iconst hx hb dX6_opensDispute_46 ?_
  refine r_iadd hx hb dX6_opensDispute_47 ?_
  refine lv_iload_n hx hb dX6_opensDispute_48 rfl (lv_at hl 4 rfl) ?_
  refine r_ist C0 hW (show 10 < 11 ∧ 1 < bs 10 from ⟨by decide, by decide⟩) (fun A => rfl) (n := 941) (v := iI r) (by omega) (by omega) (by decide) dX6_opensDispute_49 (fun H1 locs1 hW => ?_)
  obtain ⟨w5, hw5⟩ : ∃ wq9 : gW, wq9 = up w4 10 (sA (w4 10) 1 ((461 + (4 * z1)) + 2) (iI r)) := ⟨_, rfl⟩
  rw [← hw5] at hW
  refine lv_aload_n hx hb dX6_opensDispute_50 rfl (lv_at hl 1 rfl) ?_
  refine r_gR C0 hW (show 10 < 11 ∧ 0 < bs 10 from ⟨by decide, by decide⟩) rfl rfl hiX6 (k := 1) (by decide) kf_X6_7 rfl rfl rfl dX6_opensDispute_51 ?_
  refine lv_iload hx hb dX6_opensDispute_54 (lv_at hl 0 rfl) ?_
  refine r_iconst hx hb dX6_opensDispute_56 ?_
  refine r_iadd hx hb dX6_opensDispute_57 ?_
  refine lv_iload_n hx hb dX6_opensDispute_58 rfl (lv_at hl 3 rfl) ?_
  refine r_ist C0 hW (show 10 < 11 ∧ 1 < bs 10 from ⟨by decide, by decide⟩) (fun A => rfl) (n := 941) (v := iI pl) (by omega) (by omega) (by decide) dX6_opensDispute_59 (fun H1 locs1 hW => ?_)
  obtain ⟨w6, hw6⟩ : ∃ wq9 : gW, wq9 = up w5 10 (sA (w5 10) 1 ((461 + (4 * z1)) + 3) (iI pl)) := ⟨_, rfl⟩
  rw [← hw6] at hW
  refine lv_aload_n hx hb dX6_opensDispute_60 rfl (lv_at hl 1 rfl) ?_
  refine r_gR C0 hW (show 10 < 11 ∧ 0 < bs 10 from ⟨by decide, by decide⟩) rfl rfl hiX6 (k := 1) (by decide) kf_X6_7 rfl rfl rfl dX6_opensDispute_61 ?_
  refine r_bipush hx hb dX6_opensDispute_64 (by decide) ?_
  refine lv_dup2_11 hx hb dX6_opensDispute_66 rfl rfl ?_
  refine r_ild C0 hW (show 10 < 11 ∧ 1 < bs 10 from ⟨by decide, by decide⟩) rfl (n := 941) (by omega) (by omega) (by omega) dX6_opensDispute_67 (fun z7 (hz7 : z7 = gA (w6 10) 1 7) rz7 => ?_)
  have rz7a := rz7.1
  have rz7b := rz7.2
  try simp (decide := true) only [hw6, hw5, hw4, hw2, up_s, gA_s, gA_sn, gN_sF, gA_sS, gN_sS, sA_st, sF_sF, sF_sS, sS_sS, arr_s, arr_n, arr_S, gA_aI, if_true, if_false, true_and, and_true, false_and, and_false] at hz7
  refine r_iconst hx hb dX6_opensDispute_68 ?_
  refine r_iadd hx hb dX6_opensDispute_69 ?_
  refine r_ist C0 hW (show 10 < 11 ∧ 1 < bs 10 from ⟨by decide, by decide⟩) (fun A => rfl) (n := 941) (v := iI (z7 + 1)) (by omega) (by omega) (by decide) dX6_opensDispute_70 (fun H1 locs1 hW => ?_)
  obtain ⟨w8, hw8⟩ : ∃ wq9 : gW, wq9 = up w6 10 (sA (w6 10) 1 7 (iI (z7 + 1))) := ⟨_, rfl⟩
  rw [← hw8] at hW
  refine lv_aload_n hx hb dX6_opensDispute_71 rfl (lv_at hl 1 rfl) ?_
  refine r_gR C0 hW (show 10 < 11 ∧ 0 < bs 10 from ⟨by decide, by decide⟩) rfl rfl hiX6 (k := 1) (by decide) kf_X6_7 rfl rfl rfl dX6_opensDispute_72 ?_
  refine r_bipush hx hb dX6_opensDispute_75 (by decide) ?_
  refine lv_dup2_11 hx hb dX6_opensDispute_77 rfl rfl ?_
  refine r_ild C0 hW (show 10 < 11 ∧ 1 < bs 10 from ⟨by decide, by decide⟩) rfl (n := 941) (by omega) (by omega) (by omega) dX6_opensDispute_78 (fun z9 (hz9 : z9 = gA (w8 10) 1 8) rz9 => ?_)
  have rz9a := rz9.1
  have rz9b := rz9.2
  try simp (decide := true) only [hw8, hw6, hw5, hw4, hw2, up_s, gA_s, gA_sn, gN_sF, gA_sS, gN_sS, sA_st, sF_sF, sF_sS, sS_sS, arr_s, arr_n, arr_S, gA_aI, if_true, if_false, true_and, and_true, false_and, and_false] at hz9
  refine r_iconst hx hb dX6_opensDispute_79 ?_
  refine r_iadd hx hb dX6_opensDispute_80 ?_
  refine r_ist C0 hW (show 10 < 11 ∧ 1 < bs 10 from ⟨by decide, by decide⟩) (fun A => rfl) (n := 941) (v := iI (z9 + 1)) (by omega) (by omega) (by decide) dX6_opensDispute_81 (fun H1 locs1 hW => ?_)
  obtain ⟨w10, hw10⟩ : ∃ wq9 : gW, wq9 = up w8 10 (sA (w8 10) 1 8 (iI (z9 + 1))) := ⟨_, rfl⟩
  rw [← hw10] at hW
  exact r_vret C0 hW (by unfold po_X6_opensDispute; simp (decide := true) only [hw10, hw8, hw6, hw5, hw4, hw2, up_up, up_s, gA_s, gA_sn, gN_sF, gA_sS, gN_sS, sA_st, sF_sF, sF_sS, sS_sS, arr_s, arr_n, arr_S, gA_aI, if_true, if_false, true_and, and_true, false_and, and_false, hz1, hp3, hz7, hz9]; simp (disch := omega) only [aI_n]; rfl) dX6_opensDispute_82

/-- X6_dropsOldest: its end -/
def po_X6_dropsOldest (w : gW) : gW → Prop := fun w1 => w1 = up w 10 (sF (w 10) 1 (dpA ((w 10).1 1)))
theorem hdV_X6_dropsOldest : yX6_dropsOldest.cls = RX6 ∧ yX6_dropsOldest.cls ≠ "java/lang/invoke/MethodHandle" ∧ yX6_dropsOldest.cls ≠ "java/lang/invoke/VarHandle" ∧ (parseMethodDescriptor yX6_dropsOldest.desc).map (fun d => d.parameters.length) = some 0 := by decide +kernel
set_option maxHeartbeats 4000000 in
set_option maxRecDepth 100000 in
theorem c_X6_dropsOldest (l : Launch) (G : gG) (w : gW) (hop9 : 1 ≤ aI ((w 10).1 1) 7 ∧ aI ((w 10).1 1) 7 ≤ 120) : mV l G yX6_dropsOldest (wU yX6_dropsOldest cX6_dropsOldest 2 none) (rmL 0 0) [.ref (ad G 10 0)] w (po_X6_dropsOldest w) := by
  refine mV_of (by decide +kernel) (Nat.le_of_ble_eq_true rfl) (fun p e s m args below meth c ls C0 hW hl => ?_)
  have hl : lv_has ls 2 [(0, .ref (ad G 10 0))] := hl
  have hx := C0.hx
  have hb := C0.hb
  refine lv_aload_n hx hb dX6_dropsOldest_0 rfl (lv_at hl 0 rfl) ?_
  refine r_gR C0 hW (show 10 < 11 ∧ 0 < bs 10 from ⟨by decide, by decide⟩) rfl rfl hiX6 (k := 1) (by decide) kf_X6_7 rfl rfl rfl dX6_dropsOldest_1 ?_
  refine r_bipush hx hb dX6_dropsOldest_4 (by decide) ?_
  refine lv_dup2_11 hx hb dX6_dropsOldest_6 rfl rfl ?_
  refine r_ild C0 hW (show 10 < 11 ∧ 1 < bs 10 from ⟨by decide, by decide⟩) rfl (n := 941) (by omega) (by omega) (by omega) dX6_dropsOldest_7 (fun z1 (hz1 : z1 = gA (w 10) 1 7) rz1 => ?_)
  have rz1a := rz1.1
  have rz1b := rz1.2
  try simp (decide := true) only [id, up_s, gA_s, gA_sn, gN_sF, gA_sS, gN_sS, sA_st, sF_sF, sF_sS, sS_sS, arr_s, arr_n, arr_S, gA_aI, if_true, if_false, true_and, and_true, false_and, and_false] at hz1
  refine r_iconst hx hb dX6_dropsOldest_8 ?_
  refine r_isub hx hb dX6_dropsOldest_9 ?_
  refine r_ist C0 hW (show 10 < 11 ∧ 1 < bs 10 from ⟨by decide, by decide⟩) (fun A => rfl) (n := 941) (v := iI (z1 - 1)) (by omega) (by omega) (by decide) dX6_dropsOldest_10 (fun H1 locs1 hW => ?_)
  obtain ⟨w2, hw2⟩ : ∃ wq9 : gW, wq9 = up w 10 (sA (w 10) 1 7 (iI (z1 - 1))) := ⟨_, rfl⟩
  rw [← hw2] at hW
  refine r_iconst hx hb dX6_dropsOldest_11 ?_
  refine lv_istore_n (lv' := [(1, .int (iI 0)), (0, .ref (ad G 10 0))]) hx hb dX6_dropsOldest_12 rfl hl (by decide) rfl (fun ls hl => ?_)
  have hL13 : ∀ (n : Nat) (x2 : Int) (wv : gW) (hwv : wv = up w 10 (sF (w 10) 1 (selG (st ((w 10).1 1) 7 (iI (aI ((w 10).1 1) 7 - 1))) (fun i => (w 10).1 1 (i + 4)) 461  (461 + x2)))) (H0 : Heap) (locs0 : List Loc) (ls : Array Slot) (hm : 4 * (aI ((w 10).1 1) 7 - 1) - x2 < (n : Int)) (i13_0 : 0 ≤ x2) (i13_1 : x2 ≤ 4 * (aI ((w 10).1 1) 7 - 1)) (hW : wo G wv s H0 locs0) (hl : lv_has ls 2 [(1, .int (iI x2)), (0, .ref (ad G 10 0))]), W p l e (rmL 0 0) s m args below meth c H0 locs0 0 0 (QV G (po_X6_dropsOldest w) below args s) (F0 m 13 ls []) := by
    intro n
    induction n with
    | zero =>
      intro x2 wv hwv H0 locs0 ls hm i13_0 i13_1 hW hl
      exact absurd hm (by omega)
    | succ n ih13 =>
      intro x2 wv hwv H0 locs0 ls hm i13_0 i13_1 hW hl
      have hlo : aI (selG (st ((w 10).1 1) 7 (iI (aI ((w 10).1 1) 7 - 1))) (fun i => (w 10).1 1 (i + 4)) 461  (461 + x2)) 7 = aI ((w 10).1 1) 7 - 1 := by rw [aI_so _ _ (by omega), aI_e, iI_t ⟨by omega, by omega⟩]
      refine lv_iload_n hx hb dX6_dropsOldest_13 rfl (lv_at hl 0 rfl) ?_
      refine r_iconst hx hb dX6_dropsOldest_14 ?_
      refine lv_aload_n hx hb dX6_dropsOldest_15 rfl (lv_at hl 1 rfl) ?_
      refine r_gR C0 hW (show 10 < 11 ∧ 0 < bs 10 from ⟨by decide, by decide⟩) rfl rfl hiX6 (k := 1) (by decide) kf_X6_7 rfl rfl rfl dX6_dropsOldest_16 ?_
      refine r_bipush hx hb dX6_dropsOldest_19 (by decide) ?_
      refine r_ild C0 hW (show 10 < 11 ∧ 1 < bs 10 from ⟨by decide, by decide⟩) rfl (n := 941) (by omega) (by omega) (by omega) dX6_dropsOldest_21 (fun z3 (hz3 : z3 = gA (wv 10) 1 7) rz3 => ?_)
      have rz3a := rz3.1
      have rz3b := rz3.2
      try simp (decide := true) only [hwv, hw2, up_s, gA_s, gA_sn, gN_sF, gA_sS, gN_sS, sA_st, sF_sF, sF_sS, sS_sS, arr_s, arr_n, arr_S, gA_aI, if_true, if_false, true_and, and_true, false_and, and_false] at hz3
      refine r_imul hx hb dX6_dropsOldest_22 ?_
      refine r_icmp_ge (tgt := 54) hx hb ⟨by omega, by omega⟩ ⟨by omega, by omega⟩ dX6_dropsOldest_23 (by decide) (fun c4 => ?_) (fun c4 => ?_)
      · have ex2 : x2 = 4 * (aI ((w 10).1 1) 7 - 1) := by omega
        rw [show 461 + x2 = (461 + 4 * (aI ((w 10).1 1) 7 - 1)) from by omega] at hwv
        refine r_iconst hx hb dX6_dropsOldest_54 ?_
        refine lv_istore_n (lv' := [(1, .int (iI 0)), (0, .ref (ad G 10 0))]) hx hb dX6_dropsOldest_55 rfl hl (by decide) rfl (fun ls hl => ?_)
        have hL56 : ∀ (n : Nat) (y2 : Int) (wu : gW) (hwu : wu = up w 10 (sF (w 10) 1 (selG (selG (st ((w 10).1 1) 7 (iI (aI ((w 10).1 1) 7 - 1))) (fun i => (w 10).1 1 (i + 4)) 461  (461 + 4 * (aI ((w 10).1 1) 7 - 1))) (fun _ => iI 0) (461 + 4 * (aI ((w 10).1 1) 7 - 1)) ((461 + 4 * (aI ((w 10).1 1) 7 - 1)) + y2)))) (H0 : Heap) (locs0 : List Loc) (ls : Array Slot) (hm : 4 - y2 < (n : Int)) (i56_0 : 0 ≤ y2) (i56_1 : y2 ≤ 4) (hW : wo G wu s H0 locs0) (hl : lv_has ls 2 [(1, .int (iI y2)), (0, .ref (ad G 10 0))]), W p l e (rmL 0 0) s m args below meth c H0 locs0 0 0 (QV G (po_X6_dropsOldest w) below args s) (F0 m 56 ls []) := by
          intro n
          induction n with
          | zero =>
            intro y2 wu hwu H0 locs0 ls hm i56_0 i56_1 hW hl
            exact absurd hm (by omega)
          | succ n ih56 =>
            intro y2 wu hwu H0 locs0 ls hm i56_0 i56_1 hW hl
            have hlo2 : aI (selG (selG (st ((w 10).1 1) 7 (iI (aI ((w 10).1 1) 7 - 1))) (fun i => (w 10).1 1 (i + 4)) 461  (461 + 4 * (aI ((w 10).1 1) 7 - 1))) (fun _ => iI 0) (461 + 4 * (aI ((w 10).1 1) 7 - 1)) ((461 + 4 * (aI ((w 10).1 1) 7 - 1)) + y2)) 7 = aI ((w 10).1 1) 7 - 1 := by rw [aI_so _ _ (by omega), aI_so _ _ (by omega), aI_e, iI_t ⟨by omega, by omega⟩]
            refine lv_iload_n hx hb dX6_dropsOldest_56 rfl (lv_at hl 0 rfl) ?_
            refine r_iconst hx hb dX6_dropsOldest_57 ?_
            refine r_icmp_ge (tgt := 88) hx hb ⟨by omega, by omega⟩ ⟨by omega, by omega⟩ dX6_dropsOldest_58 (by decide) (fun c5 => ?_) (fun c5 => ?_)
            · exact r_vret C0 hW (by unfold po_X6_dropsOldest dpA; rw [hwu, show y2 = 4 from by omega]) dX6_dropsOldest_88
            · refine lv_aload_n hx hb dX6_dropsOldest_61 rfl (lv_at hl 1 rfl) ?_
              refine r_gR C0 hW (show 10 < 11 ∧ 0 < bs 10 from ⟨by decide, by decide⟩) rfl rfl hiX6 (k := 1) (by decide) kf_X6_7 rfl rfl rfl dX6_dropsOldest_62 ?_
              refine r_sipush hx hb dX6_dropsOldest_65 (by decide) ?_
              refine r_iconst hx hb dX6_dropsOldest_68 ?_
              refine lv_aload_n hx hb dX6_dropsOldest_69 rfl (lv_at hl 1 rfl) ?_
              refine r_gR C0 hW (show 10 < 11 ∧ 0 < bs 10 from ⟨by decide, by decide⟩) rfl rfl hiX6 (k := 1) (by decide) kf_X6_7 rfl rfl rfl dX6_dropsOldest_70 ?_
              refine r_bipush hx hb dX6_dropsOldest_73 (by decide) ?_
              refine r_ild C0 hW (show 10 < 11 ∧ 1 < bs 10 from ⟨by decide, by decide⟩) rfl (n := 941) (by omega) (by omega) (by omega) dX6_dropsOldest_75 (fun z6 (hz6 : z6 = gA (wu 10) 1 7) rz6 => ?_)
              have rz6a := rz6.1
              have rz6b := rz6.2
              try simp (decide := true) only [hwu, up_s, gA_s, gA_sn, gN_sF, gA_sS, gN_sS, sA_st, sF_sF, sF_sS, sS_sS, arr_s, arr_n, arr_S, gA_aI, if_true, if_false, true_and, and_true, false_and, and_false] at hz6
              refine r_imul hx hb dX6_dropsOldest_76 ?_
              refine r_iadd hx hb dX6_dropsOldest_77 ?_
              refine lv_iload_n hx hb dX6_dropsOldest_78 rfl (lv_at hl 0 rfl) ?_
              refine r_iadd hx hb dX6_dropsOldest_79 ?_
              refine r_iconst hx hb dX6_dropsOldest_80 ?_
              refine r_ist C0 hW (show 10 < 11 ∧ 1 < bs 10 from ⟨by decide, by decide⟩) (fun A => rfl) (n := 941) (v := iI 0) (by omega) (by omega) (by decide) dX6_dropsOldest_81 (fun H1 locs1 hW => ?_)
              obtain ⟨w7, hw7⟩ : ∃ wq9 : gW, wq9 = up wu 10 (sA (wu 10) 1 ((461 + (4 * z6)) + y2) (iI 0)) := ⟨_, rfl⟩
              rw [← hw7] at hW
              refine r_iinc (lv' := [(1, .int (iI (y2 + 1))), (0, .ref (ad G 10 0))]) hx hb dX6_dropsOldest_82 hl (k := 0) rfl (by decide) rfl (fun ls hl => ?_)
              refine lv_goto (tgt := 56) hx hb dX6_dropsOldest_85 (by decide) ?_
              exact ih56 (y2 + 1) _ (by simp only [hw7, hwu, up_up, up_s, sA_st, arr_s, sF_sF]; rw [show (461 + 4 * (aI ((w 10).1 1) 7 - 1)) + (y2 + 1) = (461 + 4 * (aI ((w 10).1 1) 7 - 1)) + y2 + 1 from by omega, selG_s _ _ (by omega), show 461 + 4 * z6 + y2 = (461 + 4 * (aI ((w 10).1 1) 7 - 1)) + y2 from by omega]) _ _ ls (by omega) (by omega) (by omega) hW (lv_sub hl [0, 1] rfl)
        exact hL56 5 0 _ (by rw [selG_0 _ _ (by omega)]; exact hwv) _ _ ls (by omega) (by omega) (by omega) hW (lv_sub hl [0, 1] rfl)
      · refine lv_aload_n hx hb dX6_dropsOldest_26 rfl (lv_at hl 1 rfl) ?_
        refine r_gR C0 hW (show 10 < 11 ∧ 0 < bs 10 from ⟨by decide, by decide⟩) rfl rfl hiX6 (k := 1) (by decide) kf_X6_7 rfl rfl rfl dX6_dropsOldest_27 ?_
        refine r_sipush hx hb dX6_dropsOldest_30 (by decide) ?_
        refine lv_iload_n hx hb dX6_dropsOldest_33 rfl (lv_at hl 0 rfl) ?_
        refine r_iadd hx hb dX6_dropsOldest_34 ?_
        refine lv_aload_n hx hb dX6_dropsOldest_35 rfl (lv_at hl 1 rfl) ?_
        refine r_gR C0 hW (show 10 < 11 ∧ 0 < bs 10 from ⟨by decide, by decide⟩) rfl rfl hiX6 (k := 1) (by decide) kf_X6_7 rfl rfl rfl dX6_dropsOldest_36 ?_
        refine r_sipush hx hb dX6_dropsOldest_39 (by decide) ?_
        refine lv_iload_n hx hb dX6_dropsOldest_42 rfl (lv_at hl 0 rfl) ?_
        refine r_iadd hx hb dX6_dropsOldest_43 ?_
        refine r_iconst hx hb dX6_dropsOldest_44 ?_
        refine r_iadd hx hb dX6_dropsOldest_45 ?_
        refine r_ild C0 hW (show 10 < 11 ∧ 1 < bs 10 from ⟨by decide, by decide⟩) rfl (n := 941) (by omega) (by omega) (by omega) dX6_dropsOldest_46 (fun z8 (hz8 : z8 = gA (wv 10) 1 ((461 + x2) + 4)) rz8 => ?_)
        have rz8a := rz8.1
        have rz8b := rz8.2
        try simp (decide := true) only [hwv, hw2, up_s, gA_s, gA_sn, gN_sF, gA_sS, gN_sS, sA_st, sF_sF, sF_sS, sS_sS, arr_s, arr_n, arr_S, gA_aI, if_true, if_false, true_and, and_true, false_and, and_false] at hz8
        refine r_ist C0 hW (show 10 < 11 ∧ 1 < bs 10 from ⟨by decide, by decide⟩) (fun A => rfl) (n := 941) (v := iI z8) (by omega) (by omega) (by decide) dX6_dropsOldest_47 (fun H1 locs1 hW => ?_)
        obtain ⟨w9, hw9⟩ : ∃ wq9 : gW, wq9 = up wv 10 (sA (wv 10) 1 (461 + x2) (iI z8)) := ⟨_, rfl⟩
        rw [← hw9] at hW
        refine r_iinc (lv' := [(1, .int (iI (x2 + 1))), (0, .ref (ad G 10 0))]) hx hb dX6_dropsOldest_48 hl (k := 0) rfl (by decide) rfl (fun ls hl => ?_)
        refine lv_goto (tgt := 13) hx hb dX6_dropsOldest_51 (by decide) ?_
        exact ih13 (x2 + 1) _ (by simp only [hw9, hwv, hw2, up_up, up_s, sA_st, arr_s, sF_sF]; rw [show 461 + (x2 + 1) = 461 + x2 + 1 from by omega, selG_s _ _ (by omega), show iI z8 = (w 10).1 1 (461 + x2 + 4) from by rw [hz8, aI_so _ _ (by omega), aI_n _ _ (by omega), aI_i]]) _ _ ls (by omega) (by omega) (by omega) hW (lv_sub hl [0, 1] rfl)
  exact hL13 481 0 _ (by rw [selG_0 _ _ (by omega)]; simp only [hw2, sA_st, hz1]) _ _ ls (by omega) (by omega) (by omega) hW (lv_sub hl [0, 1] rfl)
