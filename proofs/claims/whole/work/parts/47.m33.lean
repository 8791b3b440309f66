/-- X6_cut: its end -/
def po_X6_cut (w : gW) (co : Int) (pl : Int) : Int → gW → Prop := fun z w1 => ((¬ ((0 ≤ co ∧ co ≤ 9) ∧ (0 ≤ pl ∧ pl ≤ 19))) ∧ (z = -1) ∧ (w1 = up w 10 (sS (w 10) 0 0 (iI 0)))) ∨ ((0 ≤ co ∧ co ≤ 9) ∧ (0 ≤ pl ∧ pl ≤ 19) ∧ (∃ y : Int, ¬ y = 0 ∧ rsA ((w 10).1 1) co pl y) ∧ (z = -4) ∧ (w1 = up w 10 (sS (w 10) 0 0 (iI 0)))) ∨ ((0 ≤ co ∧ co ≤ 9) ∧ (0 ≤ pl ∧ pl ≤ 19) ∧ (rsA ((w 10).1 1) co pl 0) ∧ (pRA ((w 10).1 1) co pl) ∧ (z = aI ((w 10).1 1) 5) ∧ (w1 = up w 10 (sF (recS (sS (w 10) 0 0 (iI 0))) 1 (ctA ((w 10).1 1) co pl)))) ∨ ((0 ≤ co ∧ co ≤ 9) ∧ (0 ≤ pl ∧ pl ≤ 19) ∧ (rsA ((w 10).1 1) co pl 0) ∧ (¬ pRA ((w 10).1 1) co pl) ∧ (z = aI ((w 10).1 1) 5) ∧ (w1 = up w 10 (sF (recS (sS (w 10) 0 0 (iI 0))) 1 (opA (ctA ((w 10).1 1) co pl) co pl (aI ((w 10).1 1) 5)))))
theorem hdV_X6_cut : yX6_cut.cls = RX6 ∧ yX6_cut.cls ≠ "java/lang/invoke/MethodHandle" ∧ yX6_cut.cls ≠ "java/lang/invoke/VarHandle" ∧ (parseMethodDescriptor yX6_cut.desc).map (fun d => d.parameters.length) = some 2 := by decide +kernel
set_option maxHeartbeats 4000000 in
set_option maxRecDepth 100000 in
theorem c_X6_cut (l : Launch) (G : gG) (w : gW) (co : Int) (pl : Int) (rco : inR co) (rpl : inR pl) (hM : mO w) (hct : 0 ≤ pl ∧ pl ≤ 19 → rsA ((w 10).1 1) co pl 0 → aI ((w 10).1 1) 7 < 120) : mI l G yX6_cut (wU yX6_cut cX6_cut 5 (some .int)) (rmL 4 86) [.ref (ad G 10 0), .int (iI co), .int (iI pl)] w (po_X6_cut w co pl) := by
  refine mI_of (by decide +kernel) (Nat.le_of_ble_eq_true rfl) (fun p e s m args below meth c ls C0 hW hl => ?_)
  have hl : lv_has ls 5 [(0, .ref (ad G 10 0)), (1, .int (iI co)), (2, .int (iI pl))] := hl
  have hx := C0.hx
  have hb := C0.hb
  obtain ⟨hwA, hop, hds, hsm, hln, hdy, hsk⟩ := id hM
  obtain ⟨hv1, hv2, hv3, hv4⟩ := id hwA
  refine lv_aload_n hx hb dX6_cut_0 rfl (lv_at hl 0 rfl) ?_
  refine r_iconst hx hb dX6_cut_1 ?_
  refine r_pI C0 hW (show 10 < 11 ∧ 0 < bs 10 from ⟨by decide, by decide⟩) rfl rfl hiX6 tyX6 tyX6_ok nmX6 (k := 0) (v := iI 0) (by decide) kf_X6_28 rfl rfl rfl (tyX6_ok 0 (by decide)) rfl rfl (by simp) rfl dX6_cut_2 (fun H1 locs1 hW => ?_)
  obtain ⟨w1, hw1⟩ : ∃ wq9 : gW, wq9 = up w 10 (sS (w 10) 0 0 (iI 0)) := ⟨_, rfl⟩
  rw [← hw1] at hW
  refine lv_iload_n hx hb dX6_cut_5 rfl (lv_at hl 1 rfl) ?_
  refine k_Si (host := "") C0 hW (As := [.int (iI co)]) (c_X6_isCommoner l G w1 co rco) km_X6_74 ks_X6_isCommoner kn_X6 kc_X6_isCommoner rfl hdS_X6_isCommoner ⟨by decide, by decide⟩ rfl hl.1 rfl (Nat.le_of_ble_eq_true rfl) dX6_cut_6 (fun z2 w2 H1 locs1 rz2 hp2 hW => ?_)
  obtain ⟨hp2, hq2⟩ := hp2
  subst hq2
  have rz2a := rz2.1
  have rz2b := rz2.2
  try simp (decide := true) only [hw1, up_s, gA_s, gA_sn, gN_sF, gA_sS, gN_sS, sA_st, sF_sF, sF_sS, sS_sS, arr_s, arr_n, arr_S, gA_aI, if_true, if_false, true_and, and_true, false_and, and_false, recS_1, recS_4, recS_5, recS_6, gN_rec, gA_sx, iIt0, iIt1] at hp2
  rcases hp2 with ⟨e2, hp2⟩ | ⟨e2, hp2⟩
  · subst e2
    refine r_if_eq (tgt := 19) hx hb ⟨by omega, by omega⟩ dX6_cut_9 (by decide) (fun q => absurd q (by decide)) (fun _ => ?_)
    refine lv_iload_n hx hb dX6_cut_12 rfl (lv_at hl 2 rfl) ?_
    refine k_Si (host := "") C0 hW (As := [.int (iI pl)]) (c_X6_isPlot l G w1 pl rpl) km_X6_70 ks_X6_isPlot kn_X6 kc_X6_isPlot rfl hdS_X6_isPlot ⟨by decide, by decide⟩ rfl hl.1 rfl (Nat.le_of_ble_eq_true rfl) dX6_cut_13 (fun z3 w3 H1 locs1 rz3 hp3 hW => ?_)
    obtain ⟨hp3, hq3⟩ := hp3
    subst hq3
    have rz3a := rz3.1
    have rz3b := rz3.2
    try simp (decide := true) only [hw1, up_s, gA_s, gA_sn, gN_sF, gA_sS, gN_sS, sA_st, sF_sF, sF_sS, sS_sS, arr_s, arr_n, arr_S, gA_aI, if_true, if_false, true_and, and_true, false_and, and_false, recS_1, recS_4, recS_5, recS_6, gN_rec, gA_sx, iIt0, iIt1] at hp3
    rcases hp3 with ⟨e3, hp3⟩ | ⟨e3, hp3⟩
    · subst e3
      refine r_if_ne (tgt := 21) hx hb ⟨by omega, by omega⟩ dX6_cut_16 (by decide) (fun _ => ?_) (fun q => absurd q (by decide))
      refine lv_aload_n hx hb dX6_cut_21 rfl (lv_at hl 0 rfl) ?_
      refine lv_iload_n hx hb dX6_cut_22 rfl (lv_at hl 1 rfl) ?_
      refine lv_iload_n hx hb dX6_cut_23 rfl (lv_at hl 2 rfl) ?_
      refine k_Vi (j := 10) (k0 := 0) C0 hW (c_X6_reason l G w1 co pl rco rpl (by omega)) km_X6_90 ki_X6_reason ke_X6_reason kn_X6 kc_X6_reason rfl hdV_X6_reason ⟨by decide, by decide⟩ (show 10 < 11 ∧ 0 < bs 10 from ⟨by decide, by decide⟩) rfl rfl rfl hl.1 rfl (Nat.le_of_ble_eq_true rfl) dX6_cut_24 (fun z4 w4 H1 locs1 rz4 hp4 hW => ?_)
      obtain ⟨hp4, hq4⟩ := hp4
      subst hq4
      have rz4a := rz4.1
      have rz4b := rz4.2
      try simp (decide := true) only [hw1, up_s, gA_s, gA_sn, gN_sF, gA_sS, gN_sS, sA_st, sF_sF, sF_sS, sS_sS, arr_s, arr_n, arr_S, gA_aI, if_true, if_false, true_and, and_true, false_and, and_false, recS_1, recS_4, recS_5, recS_6, gN_rec, gA_sx, iIt0, iIt1] at hp4
      refine r_if_eq (tgt := 33) hx hb rz4 dX6_cut_27 (by decide) (fun c5 => ?_) (fun c5 => ?_)
      · have hr9 : rsA ((w 10).1 1) co pl 0 := by have q := hp4; rw [show z4 = 0 from by omega] at q; exact q
        obtain ⟨hr8, hr7⟩ := rsA_0 hr9
        have hr6 := hct ⟨by omega, by omega⟩ hr9
        refine lv_aload_n hx hb dX6_cut_33 rfl (lv_at hl 0 rfl) ?_
        refine k_Vv (j := 10) (k0 := 0) C0 hW (c_X6_records l G w1 (by first | omega | (simp (decide := true) only [hw1, up_s, gA_s, gA_sn, gN_sF, gA_sS, gN_sS, sA_st, sF_sF, sF_sS, sS_sS, arr_s, arr_n, arr_S, gA_aI, if_true, if_false, true_and, and_true, false_and, and_false, recS_1, recS_4, recS_5, recS_6, gN_rec, gA_sx, iIt0, iIt1] <;> omega))) km_X6_80 ki_X6_records ke_X6_records kn_X6 kc_X6_records rfl hdV_X6_records ⟨by decide, by decide⟩ (show 10 < 11 ∧ 0 < bs 10 from ⟨by decide, by decide⟩) rfl rfl rfl hl.1 rfl (Nat.le_of_ble_eq_true rfl) dX6_cut_34 (fun w6 H1 locs1 hp6 hW => ?_)
        have hw6 : w6 = _ := hp6
        refine lv_aload_n hx hb dX6_cut_37 rfl (lv_at hl 0 rfl) ?_
        refine r_gR C0 hW (show 10 < 11 ∧ 0 < bs 10 from ⟨by decide, by decide⟩) rfl rfl hiX6 (k := 1) (by decide) kf_X6_7 rfl rfl rfl dX6_cut_38 ?_
        refine r_iconst hx hb dX6_cut_41 ?_
        refine r_ild C0 hW (show 10 < 11 ∧ 1 < bs 10 from ⟨by decide, by decide⟩) rfl (n := 941) (by omega) (by omega) (by omega) dX6_cut_42 (fun z7 (hz7 : z7 = gA (w6 10) 1 4) rz7 => ?_)
        have rz7a := rz7.1
        have rz7b := rz7.2
        try simp (decide := true) only [hw6, hw1, up_s, gA_s, gA_sn, gN_sF, gA_sS, gN_sS, sA_st, sF_sF, sF_sS, sS_sS, arr_s, arr_n, arr_S, gA_aI, if_true, if_false, true_and, and_true, false_and, and_false, recS_1, recS_4, recS_5, recS_6, gN_rec, gA_sx, iIt0, iIt1] at hz7
        refine lv_istore_n (lv' := [(3, .int (iI z7)), (0, .ref (ad G 10 0)), (1, .int (iI co)), (2, .int (iI pl))]) hx hb dX6_cut_43 rfl hl (by decide) rfl (fun ls hl => ?_)
        refine lv_aload_n hx hb dX6_cut_44 rfl (lv_at hl 1 rfl) ?_
        refine r_gR C0 hW (show 10 < 11 ∧ 0 < bs 10 from ⟨by decide, by decide⟩) rfl rfl hiX6 (k := 1) (by decide) kf_X6_7 rfl rfl rfl dX6_cut_45 ?_
        refine r_iconst hx hb dX6_cut_48 ?_
        refine r_ild C0 hW (show 10 < 11 ∧ 1 < bs 10 from ⟨by decide, by decide⟩) rfl (n := 941) (by omega) (by omega) (by omega) dX6_cut_49 (fun z8 (hz8 : z8 = gA (w6 10) 1 5) rz8 => ?_)
        have rz8a := rz8.1
        have rz8b := rz8.2
        try simp (decide := true) only [hw6, hw1, up_s, gA_s, gA_sn, gN_sF, gA_sS, gN_sS, sA_st, sF_sF, sF_sS, sS_sS, arr_s, arr_n, arr_S, gA_aI, if_true, if_false, true_and, and_true, false_and, and_false, recS_1, recS_4, recS_5, recS_6, gN_rec, gA_sx, iIt0, iIt1] at hz8
        refine lv_istore (lv' := [(4, .int (iI z8)), (3, .int (iI z7)), (0, .ref (ad G 10 0)), (1, .int (iI co)), (2, .int (iI pl))]) hx hb dX6_cut_50 hl (by decide) rfl (fun ls hl => ?_)
        refine lv_aload_n hx hb dX6_cut_52 rfl (lv_at hl 2 rfl) ?_
        refine lv_iload_n hx hb dX6_cut_53 rfl (lv_at hl 3 rfl) ?_
        refine r_iconst hx hb dX6_cut_54 ?_
        refine r_iconst hx hb dX6_cut_55 ?_
        refine k_Vv (j := 10) (k0 := 0) C0 hW (c_X6_addCommoner l G w6 co 1 1 rco ⟨by omega, by omega⟩ ⟨by omega, by omega⟩ (by omega)) km_X6_57 ki_X6_addCommoner ke_X6_addCommoner kn_X6 kc_X6_addCommoner rfl hdV_X6_addCommoner ⟨by decide, by decide⟩ (show 10 < 11 ∧ 0 < bs 10 from ⟨by decide, by decide⟩) rfl rfl rfl hl.1 rfl (Nat.le_of_ble_eq_true rfl) dX6_cut_56 (fun w9 H1 locs1 hp9 hW => ?_)
        have hw9 : w9 = _ := hp9
        refine lv_aload_n hx hb dX6_cut_59 rfl (lv_at hl 2 rfl) ?_
        refine r_gR C0 hW (show 10 < 11 ∧ 0 < bs 10 from ⟨by decide, by decide⟩) rfl rfl hiX6 (k := 1) (by decide) kf_X6_7 rfl rfl rfl dX6_cut_60 ?_
        refine r_bipush hx hb dX6_cut_63 (by decide) ?_
        refine r_iconst hx hb dX6_cut_65 ?_
        refine lv_iload_n hx hb dX6_cut_66 rfl (lv_at hl 4 rfl) ?_
        refine r_imul hx hb dX6_cut_67 ?_
        refine r_iadd hx hb dX6_cut_68 ?_
        refine r_iconst hx hb dX6_cut_69 ?_
        refine r_iadd hx hb dX6_cut_70 ?_
        refine lv_dup2_11 hx hb dX6_cut_71 rfl rfl ?_
        refine r_ild C0 hW (show 10 < 11 ∧ 1 < bs 10 from ⟨by decide, by decide⟩) rfl (n := 941) (by omega) (by omega) (by omega) dX6_cut_72 (fun z10 (hz10 : z10 = gA (w9 10) 1 ((41 + (3 * pl)) + 0)) rz10 => ?_)
        have rz10a := rz10.1
        have rz10b := rz10.2
        try simp (decide := true) only [hw9, hw6, hw1, up_s, gA_s, gA_sn, gN_sF, gA_sS, gN_sS, sA_st, sF_sF, sF_sS, sS_sS, arr_s, arr_n, arr_S, gA_aI, if_true, if_false, true_and, and_true, false_and, and_false, recS_1, recS_4, recS_5, recS_6, gN_rec, gA_sx, iIt0, iIt1] at hz10
        refine r_iconst hx hb dX6_cut_73 ?_
        refine r_isub hx hb dX6_cut_74 ?_
        refine r_ist C0 hW (show 10 < 11 ∧ 1 < bs 10 from ⟨by decide, by decide⟩) (fun A => rfl) (n := 941) (v := iI (z10 - 1)) (by omega) (by omega) (by decide) dX6_cut_75 (fun H1 locs1 hW => ?_)
        obtain ⟨w11, hw11⟩ : ∃ wq9 : gW, wq9 = up w9 10 (sA (w9 10) 1 ((41 + (3 * pl)) + 0) (iI (z10 - 1))) := ⟨_, rfl⟩
        rw [← hw11] at hW
        refine lv_aload_n hx hb dX6_cut_76 rfl (lv_at hl 2 rfl) ?_
        refine lv_iload_n hx hb dX6_cut_77 rfl (lv_at hl 1 rfl) ?_
        refine r_iconst hx hb dX6_cut_78 ?_
        refine lv_iload hx hb dX6_cut_79 (lv_at hl 0 rfl) ?_
        refine k_Vv (j := 10) (k0 := 0) C0 hW (c_X6_layRow l G w11 z7 0 z8 rz7 ⟨by omega, by omega⟩ rz8 (by omega)) km_X6_46 ki_X6_layRow ke_X6_layRow kn_X6 kc_X6_layRow rfl hdV_X6_layRow ⟨by decide, by decide⟩ (show 10 < 11 ∧ 0 < bs 10 from ⟨by decide, by decide⟩) rfl rfl rfl hl.1 rfl (Nat.le_of_ble_eq_true rfl) dX6_cut_81 (fun w12 H1 locs1 hp12 hW => ?_)
        have hw12 : w12 = _ := hp12
        refine lv_aload_n hx hb dX6_cut_84 rfl (lv_at hl 2 rfl) ?_
        refine lv_iload_n hx hb dX6_cut_85 rfl (lv_at hl 1 rfl) ?_
        refine r_iconst hx hb dX6_cut_86 ?_
        refine lv_iload_n hx hb dX6_cut_87 rfl (lv_at hl 3 rfl) ?_
        refine k_Vv (j := 10) (k0 := 0) C0 hW (c_X6_layRow l G w12 z7 1 co rz7 ⟨by omega, by omega⟩ rco (by omega)) km_X6_46 ki_X6_layRow ke_X6_layRow kn_X6 kc_X6_layRow rfl hdV_X6_layRow ⟨by decide, by decide⟩ (show 10 < 11 ∧ 0 < bs 10 from ⟨by decide, by decide⟩) rfl rfl rfl hl.1 rfl (Nat.le_of_ble_eq_true rfl) dX6_cut_88 (fun w13 H1 locs1 hp13 hW => ?_)
        have hw13 : w13 = _ := hp13
        refine lv_aload_n hx hb dX6_cut_91 rfl (lv_at hl 2 rfl) ?_
        refine lv_iload_n hx hb dX6_cut_92 rfl (lv_at hl 1 rfl) ?_
        refine r_iconst hx hb dX6_cut_93 ?_
        refine lv_iload_n hx hb dX6_cut_94 rfl (lv_at hl 4 rfl) ?_
        refine k_Vv (j := 10) (k0 := 0) C0 hW (c_X6_layRow l G w13 z7 2 pl rz7 ⟨by omega, by omega⟩ rpl (by omega)) km_X6_46 ki_X6_layRow ke_X6_layRow kn_X6 kc_X6_layRow rfl hdV_X6_layRow ⟨by decide, by decide⟩ (show 10 < 11 ∧ 0 < bs 10 from ⟨by decide, by decide⟩) rfl rfl rfl hl.1 rfl (Nat.le_of_ble_eq_true rfl) dX6_cut_95 (fun w14 H1 locs1 hp14 hW => ?_)
        have hw14 : w14 = _ := hp14
        refine lv_aload_n hx hb dX6_cut_98 rfl (lv_at hl 2 rfl) ?_
        refine lv_iload_n hx hb dX6_cut_99 rfl (lv_at hl 1 rfl) ?_
        refine r_iconst hx hb dX6_cut_100 ?_
        refine r_bipush hx hb dX6_cut_101 (by decide) ?_
        refine k_Vv (j := 10) (k0 := 0) C0 hW (c_X6_layRow l G w14 z7 3 50 rz7 ⟨by omega, by omega⟩ ⟨by omega, by omega⟩ (by omega)) km_X6_46 ki_X6_layRow ke_X6_layRow kn_X6 kc_X6_layRow rfl hdV_X6_layRow ⟨by decide, by decide⟩ (show 10 < 11 ∧ 0 < bs 10 from ⟨by decide, by decide⟩) rfl rfl rfl hl.1 rfl (Nat.le_of_ble_eq_true rfl) dX6_cut_103 (fun w15 H1 locs1 hp15 hW => ?_)
        have hw15 : w15 = _ := hp15
        refine lv_aload_n hx hb dX6_cut_106 rfl (lv_at hl 2 rfl) ?_
        refine lv_iload_n hx hb dX6_cut_107 rfl (lv_at hl 1 rfl) ?_
        refine r_iconst hx hb dX6_cut_108 ?_
        refine r_iconst hx hb dX6_cut_109 ?_
        refine k_Vv (j := 10) (k0 := 0) C0 hW (c_X6_layRow l G w15 z7 4 0 rz7 ⟨by omega, by omega⟩ ⟨by omega, by omega⟩ (by omega)) km_X6_46 ki_X6_layRow ke_X6_layRow kn_X6 kc_X6_layRow rfl hdV_X6_layRow ⟨by decide, by decide⟩ (show 10 < 11 ∧ 0 < bs 10 from ⟨by decide, by decide⟩) rfl rfl rfl hl.1 rfl (Nat.le_of_ble_eq_true rfl) dX6_cut_110 (fun w16 H1 locs1 hp16 hW => ?_)
        have hw16 : w16 = _ := hp16
        refine lv_aload_n hx hb dX6_cut_113 rfl (lv_at hl 2 rfl) ?_
        refine lv_iload_n hx hb dX6_cut_114 rfl (lv_at hl 1 rfl) ?_
        refine r_iconst hx hb dX6_cut_115 ?_
        refine r_iconst hx hb dX6_cut_116 ?_
        refine k_Vv (j := 10) (k0 := 0) C0 hW (c_X6_layRow l G w16 z7 5 0 rz7 ⟨by omega, by omega⟩ ⟨by omega, by omega⟩ (by omega)) km_X6_46 ki_X6_layRow ke_X6_layRow kn_X6 kc_X6_layRow rfl hdV_X6_layRow ⟨by decide, by decide⟩ (show 10 < 11 ∧ 0 < bs 10 from ⟨by decide, by decide⟩) rfl rfl rfl hl.1 rfl (Nat.le_of_ble_eq_true rfl) dX6_cut_117 (fun w17 H1 locs1 hp17 hW => ?_)
        have hw17 : w17 = _ := hp17
        refine lv_aload_n hx hb dX6_cut_120 rfl (lv_at hl 2 rfl) ?_
        refine r_gR C0 hW (show 10 < 11 ∧ 0 < bs 10 from ⟨by decide, by decide⟩) rfl rfl hiX6 (k := 1) (by decide) kf_X6_7 rfl rfl rfl dX6_cut_121 ?_
        refine r_iconst hx hb dX6_cut_124 ?_
        refine lv_dup2_11 hx hb dX6_cut_125 rfl rfl ?_
        refine r_ild C0 hW (show 10 < 11 ∧ 1 < bs 10 from ⟨by decide, by decide⟩) rfl (n := 941) (by omega) (by omega) (by omega) dX6_cut_126 (fun z18 (hz18 : z18 = gA (w17 10) 1 4) rz18 => ?_)
        have rz18a := rz18.1
        have rz18b := rz18.2
        try simp (decide := true) only [hw17, hw16, hw15, hw14, hw13, hw12, hw11, hw9, hw6, hw1, up_s, gA_s, gA_sn, gN_sF, gA_sS, gN_sS, sA_st, sF_sF, sF_sS, sS_sS, arr_s, arr_n, arr_S, gA_aI, if_true, if_false, true_and, and_true, false_and, and_false, recS_1, recS_4, recS_5, recS_6, gN_rec, gA_sx, iIt0, iIt1] at hz18
        refine r_iconst hx hb dX6_cut_127 ?_
        refine r_iadd hx hb dX6_cut_128 ?_
        refine r_ist C0 hW (show 10 < 11 ∧ 1 < bs 10 from ⟨by decide, by decide⟩) (fun A => rfl) (n := 941) (v := iI (z18 + 1)) (by omega) (by omega) (by decide) dX6_cut_129 (fun H1 locs1 hW => ?_)
        obtain ⟨w19, hw19⟩ : ∃ wq9 : gW, wq9 = up w17 10 (sA (w17 10) 1 4 (iI (z18 + 1))) := ⟨_, rfl⟩
        rw [← hw19] at hW
        refine lv_aload_n hx hb dX6_cut_130 rfl (lv_at hl 2 rfl) ?_
        refine r_gR C0 hW (show 10 < 11 ∧ 0 < bs 10 from ⟨by decide, by decide⟩) rfl rfl hiX6 (k := 1) (by decide) kf_X6_7 rfl rfl rfl dX6_cut_131 ?_
        refine r_iconst hx hb dX6_cut_134 ?_
        refine lv_dup2_11 hx hb dX6_cut_135 rfl rfl ?_
        refine r_ild C0 hW (show 10 < 11 ∧ 1 < bs 10 from ⟨by decide, by decide⟩) rfl (n := 941) (by omega) (by omega) (by omega) dX6_cut_136 (fun z20 (hz20 : z20 = gA (w19 10) 1 5) rz20 => ?_)
        have rz20a := rz20.1
        have rz20b := rz20.2
        try simp (decide := true) only [hw19, hw17, hw16, hw15, hw14, hw13, hw12, hw11, hw9, hw6, hw1, up_s, gA_s, gA_sn, gN_sF, gA_sS, gN_sS, sA_st, sF_sF, sF_sS, sS_sS, arr_s, arr_n, arr_S, gA_aI, if_true, if_false, true_and, and_true, false_and, and_false, recS_1, recS_4, recS_5, recS_6, gN_rec, gA_sx, iIt0, iIt1] at hz20
        refine r_iconst hx hb dX6_cut_137 ?_
        refine r_iadd hx hb dX6_cut_138 ?_
        refine r_ist C0 hW (show 10 < 11 ∧ 1 < bs 10 from ⟨by decide, by decide⟩) (fun A => rfl) (n := 941) (v := iI (z20 + 1)) (by omega) (by omega) (by decide) dX6_cut_139 (fun H1 locs1 hW => ?_)
        obtain ⟨w21, hw21⟩ : ∃ wq9 : gW, wq9 = up w19 10 (sA (w19 10) 1 5 (iI (z20 + 1))) := ⟨_, rfl⟩
        rw [← hw21] at hW
        have hE9 : w21 = up w 10 (sF (recS (sS (w 10) 0 0 (iI 0))) 1 (ctA ((w 10).1 1) co pl)) := by simp (decide := true) only [hw21, hw19, hw17, hw16, hw15, hw14, hw13, hw12, hw11, hw9, hw6, hw1, up_up, up_s, gA_s, gA_sn, gN_sF, gA_sS, gN_sS, sA_st, sF_sF, sF_sS, sS_sS, arr_s, arr_n, arr_S, gA_aI, if_true, if_false, true_and, and_true, false_and, and_false, recS_1, recS_4, recS_5, recS_6, gN_rec, gA_sx, iIt0, iIt1, hz7, hz8, hz10, hz18, hz20]; simp (disch := omega) only [aI_n]; rfl
        have hc7 : aI (ctA ((w 10).1 1) co pl) 7 = aI ((w 10).1 1) 7 := ctA_o (by omega) (by omega) (by omega) (by omega) (by omega) (by omega) (by omega) (by omega)
        refine lv_aload_n hx hb dX6_cut_140 rfl (lv_at hl 2 rfl) ?_
        refine lv_iload_n hx hb dX6_cut_141 rfl (lv_at hl 3 rfl) ?_
        refine lv_iload_n hx hb dX6_cut_142 rfl (lv_at hl 4 rfl) ?_
        refine k_Vi (j := 10) (k0 := 0) C0 hW (c_X6_hasRight l G w21 co pl rco rpl) km_X6_86 ki_X6_hasRight ke_X6_hasRight kn_X6 kc_X6_hasRight rfl hdV_X6_hasRight ⟨by decide, by decide⟩ (show 10 < 11 ∧ 0 < bs 10 from ⟨by decide, by decide⟩) rfl rfl rfl hl.1 rfl (Nat.le_of_ble_eq_true rfl) dX6_cut_143 (fun z22 w22 H1 locs1 rz22 hp22 hW => ?_)
        obtain ⟨hp22, hq22⟩ := hp22
        subst hq22
        have rz22a := rz22.1
        have rz22b := rz22.2
        try simp (decide := true) only [hE9, up_s, gA_s, gA_sn, gN_sF, gA_sS, gN_sS, sA_st, sF_sF, sF_sS, sS_sS, arr_s, arr_n, arr_S, gA_aI, if_true, if_false, true_and, and_true, false_and, and_false, recS_1, recS_4, recS_5, recS_6, gN_rec, gA_sx, iIt0, iIt1] at hp22; (try simp only [hz8] at hp22)
        rcases hp22 with ⟨e22, hp22⟩ | ⟨e22, hp22⟩
        · subst e22
          refine r_if_ne (tgt := 157) hx hb ⟨by omega, by omega⟩ dX6_cut_146 (by decide) (fun _ => ?_) (fun q => absurd q (by decide))
          have hyr : pRA ((w 10).1 1) co pl := (ctA_pR (by omega) (by omega) (by omega)).1 hp22
          refine lv_iload hx hb dX6_cut_157 (lv_at hl 0 rfl) ?_
          exact r_iret C0 hW rz8 (by first | exact Or.inl (⟨(by first | assumption | omega | trivial), (by first | omega | assumption | (simp only [hz8])), (by simp (decide := true) only [hE9, up_up, up_s, gA_s, gA_sn, gN_sF, gA_sS, gN_sS, sA_st, sF_sF, sF_sS, sS_sS, arr_s, arr_n, arr_S, gA_aI, if_true, if_false, true_and, and_true, false_and, and_false, recS_1, recS_4, recS_5, recS_6, gN_rec, gA_sx, iIt0, iIt1, hz8])⟩) | exact Or.inr (Or.inl (⟨(by first | assumption | omega | trivial), (by first | assumption | omega | trivial), (⟨z4, by omega, hp4⟩), (by first | omega | assumption | (simp only [hz8])), (by simp (decide := true) only [hE9, up_up, up_s, gA_s, gA_sn, gN_sF, gA_sS, gN_sS, sA_st, sF_sF, sF_sS, sS_sS, arr_s, arr_n, arr_S, gA_aI, if_true, if_false, true_and, and_true, false_and, and_false, recS_1, recS_4, recS_5, recS_6, gN_rec, gA_sx, iIt0, iIt1, hz8])⟩)) | exact Or.inr (Or.inr (Or.inl (⟨(by first | assumption | omega | trivial), (by first | assumption | omega | trivial), (hr9), (hyr), (by simp only [hz8]), (hE9)⟩))) | exact Or.inr (Or.inr (Or.inr (⟨(by first | assumption | omega | trivial), (by first | assumption | omega | trivial), (hr9), (hnr), (by simp only [hz8]), (by simp (decide := true) only [hE9, up_up, up_s, gA_s, gA_sn, gN_sF, gA_sS, gN_sS, sA_st, sF_sF, sF_sS, sS_sS, arr_s, arr_n, arr_S, gA_aI, if_true, if_false, true_and, and_true, false_and, and_false, recS_1, recS_4, recS_5, recS_6, gN_rec, gA_sx, iIt0, iIt1, hz8])⟩)))) dX6_cut_159
        · subst e22
          refine r_if_ne (tgt := 157) hx hb ⟨by omega, by omega⟩ dX6_cut_146 (by decide) (fun q => absurd q (by decide)) (fun _ => ?_)
          have hnr : ¬ pRA ((w 10).1 1) co pl := fun q => hp22 ((ctA_pR (by omega) (by omega) (by omega)).2 q)
          refine lv_aload_n hx hb dX6_cut_149 rfl (lv_at hl 2 rfl) ?_
          refine lv_iload_n hx hb dX6_cut_150 rfl (lv_at hl 3 rfl) ?_
          refine lv_iload_n hx hb dX6_cut_151 rfl (lv_at hl 4 rfl) ?_
          refine lv_iload hx hb dX6_cut_152 (lv_at hl 0 rfl) ?_
          refine k_Vv (j := 10) (k0 := 0) C0 hW (c_X6_opensDispute l G w21 co pl z8 rco rpl rz8 (by omega) (by first | omega | (simp (decide := true) only [hE9, up_s, gA_s, gA_sn, gN_sF, gA_sS, gN_sS, sA_st, sF_sF, sF_sS, sS_sS, arr_s, arr_n, arr_S, gA_aI, if_true, if_false, true_and, and_true, false_and, and_false, recS_1, recS_4, recS_5, recS_6, gN_rec, gA_sx, iIt0, iIt1] <;> omega))) km_X6_93 ki_X6_opensDispute ke_X6_opensDispute kn_X6 kc_X6_opensDispute rfl hdV_X6_opensDispute ⟨by decide, by decide⟩ (show 10 < 11 ∧ 0 < bs 10 from ⟨by decide, by decide⟩) rfl rfl rfl hl.1 rfl (Nat.le_of_ble_eq_true rfl) dX6_cut_154 (fun w23 H1 locs1 hp23 hW => ?_)
          have hw23 : w23 = _ := hp23
          skip
          refine lv_iload hx hb dX6_cut_157 (lv_at hl 0 rfl) ?_
          exact r_iret C0 hW rz8 (by first | exact Or.inl (⟨(by first | assumption | omega | trivial), (by first | omega | assumption | (simp only [hz8])), (by simp (decide := true) only [hw23, hE9, up_up, up_s, gA_s, gA_sn, gN_sF, gA_sS, gN_sS, sA_st, sF_sF, sF_sS, sS_sS, arr_s, arr_n, arr_S, gA_aI, if_true, if_false, true_and, and_true, false_and, and_false, recS_1, recS_4, recS_5, recS_6, gN_rec, gA_sx, iIt0, iIt1, hz8])⟩) | exact Or.inr (Or.inl (⟨(by first | assumption | omega | trivial), (by first | assumption | omega | trivial), (⟨z4, by omega, hp4⟩), (by first | omega | assumption | (simp only [hz8])), (by simp (decide := true) only [hw23, hE9, up_up, up_s, gA_s, gA_sn, gN_sF, gA_sS, gN_sS, sA_st, sF_sF, sF_sS, sS_sS, arr_s, arr_n, arr_S, gA_aI, if_true, if_false, true_and, and_true, false_and, and_false, recS_1, recS_4, recS_5, recS_6, gN_rec, gA_sx, iIt0, iIt1, hz8])⟩)) | exact Or.inr (Or.inr (Or.inl (⟨(by first | assumption | omega | trivial), (by first | assumption | omega | trivial), (hr9), (hyr), (by simp only [hz8]), (hE9)⟩))) | exact Or.inr (Or.inr (Or.inr (⟨(by first | assumption | omega | trivial), (by first | assumption | omega | trivial), (hr9), (hnr), (by simp only [hz8]), (by simp (decide := true) only [hw23, hE9, up_up, up_s, gA_s, gA_sn, gN_sF, gA_sS, gN_sS, sA_st, sF_sF, sF_sS, sS_sS, arr_s, arr_n, arr_S, gA_aI, if_true, if_false, true_and, and_true, false_and, and_false, recS_1, recS_4, recS_5, recS_6, gN_rec, gA_sx, iIt0, iIt1, hz8])⟩)))) dX6_cut_159
      · refine r_bipush hx hb dX6_cut_30 (by decide) ?_
        exact r_iret C0 hW ⟨by omega, by omega⟩ (by first | exact Or.inl (⟨(by first | assumption | omega | trivial), (by first | omega | assumption | (simp only [id])), (by simp (decide := true) only [hw1, up_up, up_s, gA_s, gA_sn, gN_sF, gA_sS, gN_sS, sA_st, sF_sF, sF_sS, sS_sS, arr_s, arr_n, arr_S, gA_aI, if_true, if_false, true_and, and_true, false_and, and_false, recS_1, recS_4, recS_5, recS_6, gN_rec, gA_sx, iIt0, iIt1, id])⟩) | exact Or.inr (Or.inl (⟨(by first | assumption | omega | trivial), (by first | assumption | omega | trivial), (⟨z4, by omega, hp4⟩), (by first | omega | assumption | (simp only [id])), (by simp (decide := true) only [hw1, up_up, up_s, gA_s, gA_sn, gN_sF, gA_sS, gN_sS, sA_st, sF_sF, sF_sS, sS_sS, arr_s, arr_n, arr_S, gA_aI, if_true, if_false, true_and, and_true, false_and, and_false, recS_1, recS_4, recS_5, recS_6, gN_rec, gA_sx, iIt0, iIt1, id])⟩)) | exact Or.inr (Or.inr (Or.inl (⟨(by first | assumption | omega | trivial), (by first | assumption | omega | trivial), (hr9), (hyr), (by simp only [id]), (hE9)⟩))) | exact Or.inr (Or.inr (Or.inr (⟨(by first | assumption | omega | trivial), (by first | assumption | omega | trivial), (hr9), (hnr), (by simp only [id]), (by simp (decide := true) only [hw1, up_up, up_s, gA_s, gA_sn, gN_sF, gA_sS, gN_sS, sA_st, sF_sF, sF_sS, sS_sS, arr_s, arr_n, arr_S, gA_aI, if_true, if_false, true_and, and_true, false_and, and_false, recS_1, recS_4, recS_5, recS_6, gN_rec, gA_sx, iIt0, iIt1, id])⟩)))) dX6_cut_32
    · subst e3
      refine r_if_ne (tgt := 21) hx hb ⟨by omega, by omega⟩ dX6_cut_16 (by decide) (fun q => absurd q (by decide)) (fun _ => ?_)
      refine r_iconst hx hb dX6_cut_19 ?_
      exact r_iret C0 hW ⟨by omega, by omega⟩ (by first | exact Or.inl (⟨(by first | assumption | omega | trivial), (by first | omega | assumption | (simp only [id])), (by simp (decide := true) only [hw1, up_up, up_s, gA_s, gA_sn, gN_sF, gA_sS, gN_sS, sA_st, sF_sF, sF_sS, sS_sS, arr_s, arr_n, arr_S, gA_aI, if_true, if_false, true_and, and_true, false_and, and_false, recS_1, recS_4, recS_5, recS_6, gN_rec, gA_sx, iIt0, iIt1, id])⟩) | exact Or.inr (Or.inr (Or.inl (⟨(by first | assumption | omega | trivial), (by first | assumption | omega | trivial), (hr9), (hyr), (by simp only [id]), (hE9)⟩))) | exact Or.inr (Or.inr (Or.inr (⟨(by first | assumption | omega | trivial), (by first | assumption | omega | trivial), (hr9), (hnr), (by simp only [id]), (by simp (decide := true) only [hw1, up_up, up_s, gA_s, gA_sn, gN_sF, gA_sS, gN_sS, sA_st, sF_sF, sF_sS, sS_sS, arr_s, arr_n, arr_S, gA_aI, if_true, if_false, true_and, and_true, false_and, and_false, recS_1, recS_4, recS_5, recS_6, gN_rec, gA_sx, iIt0, iIt1, id])⟩)))) dX6_cut_20
  · subst e2
    refine r_if_eq (tgt := 19) hx hb ⟨by omega, by omega⟩ dX6_cut_9 (by decide) (fun _ => ?_) (fun q => absurd q (by decide))
    refine r_iconst hx hb dX6_cut_19 ?_
    exact r_iret C0 hW ⟨by omega, by omega⟩ (by first | exact Or.inl (⟨(by first | assumption | omega | trivial), (by first | omega | assumption | (simp only [id])), (by simp (decide := true) only [hw1, up_up, up_s, gA_s, gA_sn, gN_sF, gA_sS, gN_sS, sA_st, sF_sF, sF_sS, sS_sS, arr_s, arr_n, arr_S, gA_aI, if_true, if_false, true_and, and_true, false_and, and_false, recS_1, recS_4, recS_5, recS_6, gN_rec, gA_sx, iIt0, iIt1, id])⟩) | exact Or.inr (Or.inr (Or.inl (⟨(by first | assumption | omega | trivial), (by first | assumption | omega | trivial), (hr9), (hyr), (by simp only [id]), (hE9)⟩))) | exact Or.inr (Or.inr (Or.inr (⟨(by first | assumption | omega | trivial), (by first | assumption | omega | trivial), (hr9), (hnr), (by simp only [id]), (by simp (decide := true) only [hw1, up_up, up_s, gA_s, gA_sn, gN_sF, gA_sS, gN_sS, sA_st, sF_sF, sF_sS, sS_sS, arr_s, arr_n, arr_S, gA_aI, if_true, if_false, true_and, and_true, false_and, and_false, recS_1, recS_4, recS_5, recS_6, gN_rec, gA_sx, iIt0, iIt1, id])⟩)))) dX6_cut_20
