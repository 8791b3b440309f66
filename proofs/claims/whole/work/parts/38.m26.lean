/-- X6_hasRight: its end -/
def po_X6_hasRight (w : gW) (co : Int) (pl : Int) : Int → gW → Prop := fun z w1 => ((z = 1 ∧ pRA ((w 10).1 1) co pl) ∨ (z = 0 ∧ ¬ pRA ((w 10).1 1) co pl)) ∧ w = w1
theorem hdV_X6_hasRight : yX6_hasRight.cls = RX6 ∧ yX6_hasRight.cls ≠ "java/lang/invoke/MethodHandle" ∧ yX6_hasRight.cls ≠ "java/lang/invoke/VarHandle" ∧ (parseMethodDescriptor yX6_hasRight.desc).map (fun d => d.parameters.length) = some 2 := by decide +kernel
set_option maxHeartbeats 4000000 in
set_option maxRecDepth 100000 in
theorem c_X6_hasRight (l : Launch) (G : gG) (w : gW) (co : Int) (pl : Int) (rco : inR co) (rpl : inR pl) : mI l G yX6_hasRight (wU yX6_hasRight cX6_hasRight 3 (some .boolean)) (rmL 2 42) [.ref (ad G 10 0), .int (iI co), .int (iI pl)] w (po_X6_hasRight w co pl) := by
  refine mI_of (by decide +kernel) (Nat.le_of_ble_eq_true rfl) (fun p e s m args below meth c ls C0 hW hl => ?_)
  have hl : lv_has ls 3 [(0, .ref (ad G 10 0)), (1, .int (iI co)), (2, .int (iI pl))] := hl
  have hx := C0.hx
  have hb := C0.hb
  refine lv_iload_n hx hb dX6_hasRight_0 rfl (lv_at hl 2 rfl) ?_
  refine k_Si (host := "") C0 hW (As := [.int (iI pl)]) (c_X6_isPlot l G w pl rpl) km_X6_70 ks_X6_isPlot kn_X6 kc_X6_isPlot rfl hdS_X6_isPlot ⟨by decide, by decide⟩ rfl hl.1 rfl (Nat.le_of_ble_eq_true rfl) dX6_hasRight_1 (fun z1 w1 H1 locs1 rz1 hp1 hW => ?_)
  obtain ⟨hp1, hq1⟩ := hp1
  subst hq1
  have rz1a := rz1.1
  have rz1b := rz1.2
  try simp (decide := true) only [id, up_s, gA_s, gA_sn, gN_sF, gA_sS, gN_sS, sA_st, sF_sF, sF_sS, sS_sS, arr_s, arr_n, arr_S, gA_aI, if_true, if_false, true_and, and_true, false_and, and_false, recS_1, gN_rec, iIt0, iIt1] at hp1
  rcases hp1 with ⟨e1, hp1⟩ | ⟨e1, hp1⟩
  · subst e1
    refine r_if_eq (tgt := 21) hx hb ⟨by omega, by omega⟩ dX6_hasRight_4 (by decide) (fun q => absurd q (by decide)) (fun _ => ?_)
    refine lv_aload_n hx hb dX6_hasRight_7 rfl (lv_at hl 0 rfl) ?_
    refine lv_iload_n hx hb dX6_hasRight_8 rfl (lv_at hl 2 rfl) ?_
    refine r_iconst hx hb dX6_hasRight_9 ?_
    refine k_Vi (j := 10) (k0 := 0) C0 hW (c_X6_ofPlot l G w pl 2 rpl ⟨by omega, by omega⟩ (by omega)) km_X6_77 ki_X6_ofPlot ke_X6_ofPlot kn_X6 kc_X6_ofPlot rfl hdV_X6_ofPlot ⟨by decide, by decide⟩ (show 10 < 11 ∧ 0 < bs 10 from ⟨by decide, by decide⟩) rfl rfl rfl hl.1 rfl (Nat.le_of_ble_eq_true rfl) dX6_hasRight_10 (fun z2 w2 H1 locs1 rz2 hp2 hW => ?_)
    obtain ⟨hp2, hq2⟩ := hp2
    subst hq2
    have rz2a := rz2.1
    have rz2b := rz2.2
    try simp (decide := true) only [id, up_s, gA_s, gA_sn, gN_sF, gA_sS, gN_sS, sA_st, sF_sF, sF_sS, sS_sS, arr_s, arr_n, arr_S, gA_aI, if_true, if_false, true_and, and_true, false_and, and_false, recS_1, gN_rec, iIt0, iIt1] at hp2
    refine lv_iload_n hx hb dX6_hasRight_13 rfl (lv_at hl 1 rfl) ?_
    refine r_icmp_ne (tgt := 21) hx hb rz2 rco dX6_hasRight_14 (by decide) (fun c3 => ?_) (fun c3 => ?_)
    · refine r_iconst hx hb dX6_hasRight_21 ?_
      exact r_zret C0 hW (by first | exact Or.inl rfl | exact Or.inr rfl | omega) (⟨by unfold pRA; omega, rfl⟩) dX6_hasRight_22
    · refine r_iconst hx hb dX6_hasRight_17 ?_
      refine lv_goto (tgt := 22) hx hb dX6_hasRight_18 (by decide) ?_
      exact r_zret C0 hW (by first | exact Or.inl rfl | exact Or.inr rfl | omega) (⟨by unfold pRA; omega, rfl⟩) dX6_hasRight_22
  · subst e1
    refine r_if_eq (tgt := 21) hx hb ⟨by omega, by omega⟩ dX6_hasRight_4 (by decide) (fun _ => ?_) (fun q => absurd q (by decide))
    refine r_iconst hx hb dX6_hasRight_21 ?_
    exact r_zret C0 hW (by first | exact Or.inl rfl | exact Or.inr rfl | omega) (⟨by unfold pRA; omega, rfl⟩) dX6_hasRight_22

/-- X6_reason: its end -/
def po_X6_reason (w : gW) (co : Int) (pl : Int) : Int → gW → Prop := fun z w1 => (rsA ((w 10).1 1) co pl z) ∧ w = w1
theorem hdV_X6_reason : yX6_reason.cls = RX6 ∧ yX6_reason.cls ≠ "java/lang/invoke/MethodHandle" ∧ yX6_reason.cls ≠ "java/lang/invoke/VarHandle" ∧ (parseMethodDescriptor yX6_reason.desc).map (fun d => d.parameters.length) = some 2 := by decide +kernel
set_option maxHeartbeats 4000000 in
set_option maxRecDepth 100000 in
theorem c_X6_reason (l : Launch) (G : gG) (w : gW) (co : Int) (pl : Int) (rco : inR co) (rpl : inR pl) (hcp : (0 ≤ co ∧ co ≤ 9) ∧ (0 ≤ pl ∧ pl ≤ 19)) : mI l G yX6_reason (wU yX6_reason cX6_reason 3 (some .int)) (rmL 3 64) [.ref (ad G 10 0), .int (iI co), .int (iI pl)] w (po_X6_reason w co pl) := by
  refine mI_of (by decide +kernel) (Nat.le_of_ble_eq_true rfl) (fun p e s m args below meth c ls C0 hW hl => ?_)
  have hl : lv_has ls 3 [(0, .ref (ad G 10 0)), (1, .int (iI co)), (2, .int (iI pl))] := hl
  have hx := C0.hx
  have hb := C0.hb
  refine lv_aload_n hx hb dX6_reason_0 rfl (lv_at hl 0 rfl) ?_
  refine lv_iload_n hx hb dX6_reason_1 rfl (lv_at hl 1 rfl) ?_
  refine r_iconst hx hb dX6_reason_2 ?_
  refine k_Vi (j := 10) (k0 := 0) C0 hW (c_X6_ofCommoner l G w co 1 rco ⟨by omega, by omega⟩ (by omega)) km_X6_83 ki_X6_ofCommoner ke_X6_ofCommoner kn_X6 kc_X6_ofCommoner rfl hdV_X6_ofCommoner ⟨by decide, by decide⟩ (show 10 < 11 ∧ 0 < bs 10 from ⟨by decide, by decide⟩) rfl rfl rfl hl.1 rfl (Nat.le_of_ble_eq_true rfl) dX6_reason_3 (fun z1 w1 H1 locs1 rz1 hp1 hW => ?_)
  obtain ⟨hp1, hq1⟩ := hp1
  subst hq1
  have rz1a := rz1.1
  have rz1b := rz1.2
  try simp (decide := true) only [id, up_s, gA_s, gA_sn, gN_sF, gA_sS, gN_sS, sA_st, sF_sF, sF_sS, sS_sS, arr_s, arr_n, arr_S, gA_aI, if_true, if_false, true_and, and_true, false_and, and_false, recS_1, gN_rec, iIt0, iIt1] at hp1
  refine lv_aload_n hx hb dX6_reason_6 rfl (lv_at hl 0 rfl) ?_
  refine lv_iload_n hx hb dX6_reason_7 rfl (lv_at hl 1 rfl) ?_
  refine r_iconst hx hb dX6_reason_8 ?_
  refine k_Vi (j := 10) (k0 := 0) C0 hW (c_X6_ofCommoner l G w co 0 rco ⟨by omega, by omega⟩ (by omega)) km_X6_83 ki_X6_ofCommoner ke_X6_ofCommoner kn_X6 kc_X6_ofCommoner rfl hdV_X6_ofCommoner ⟨by decide, by decide⟩ (show 10 < 11 ∧ 0 < bs 10 from ⟨by decide, by decide⟩) rfl rfl rfl hl.1 rfl (Nat.le_of_ble_eq_true rfl) dX6_reason_9 (fun z2 w2 H1 locs1 rz2 hp2 hW => ?_)
  obtain ⟨hp2, hq2⟩ := hp2
  subst hq2
  have rz2a := rz2.1
  have rz2b := rz2.2
  try simp (decide := true) only [id, up_s, gA_s, gA_sn, gN_sF, gA_sS, gN_sS, sA_st, sF_sF, sF_sS, sS_sS, arr_s, arr_n, arr_S, gA_aI, if_true, if_false, true_and, and_true, false_and, and_false, recS_1, gN_rec, iIt0, iIt1] at hp2
  refine r_icmp_lt (tgt := 17) hx hb rz1 rz2 dX6_reason_12 (by decide) (fun c3 => ?_) (fun c3 => ?_)
  · refine lv_aload_n hx hb dX6_reason_17 rfl (lv_at hl 0 rfl) ?_
    refine lv_iload_n hx hb dX6_reason_18 rfl (lv_at hl 2 rfl) ?_
    refine r_iconst hx hb dX6_reason_19 ?_
    refine k_Vi (j := 10) (k0 := 0) C0 hW (c_X6_ofPlot l G w pl 0 rpl ⟨by omega, by omega⟩ (by omega)) km_X6_77 ki_X6_ofPlot ke_X6_ofPlot kn_X6 kc_X6_ofPlot rfl hdV_X6_ofPlot ⟨by decide, by decide⟩ (show 10 < 11 ∧ 0 < bs 10 from ⟨by decide, by decide⟩) rfl rfl rfl hl.1 rfl (Nat.le_of_ble_eq_true rfl) dX6_reason_20 (fun z4 w4 H1 locs1 rz4 hp4 hW => ?_)
    obtain ⟨hp4, hq4⟩ := hp4
    subst hq4
    have rz4a := rz4.1
    have rz4b := rz4.2
    try simp (decide := true) only [id, up_s, gA_s, gA_sn, gN_sF, gA_sS, gN_sS, sA_st, sF_sF, sF_sS, sS_sS, arr_s, arr_n, arr_S, gA_aI, if_true, if_false, true_and, and_true, false_and, and_false, recS_1, gN_rec, iIt0, iIt1] at hp4
    refine r_if_eq (tgt := 37) hx hb rz4 dX6_reason_23 (by decide) (fun c5 => ?_) (fun c5 => ?_)
    · refine lv_aload_n hx hb dX6_reason_37 rfl (lv_at hl 0 rfl) ?_
      refine lv_iload_n hx hb dX6_reason_38 rfl (lv_at hl 2 rfl) ?_
      refine r_iconst hx hb dX6_reason_39 ?_
      refine k_Vi (j := 10) (k0 := 0) C0 hW (c_X6_ofPlot l G w pl 0 rpl ⟨by omega, by omega⟩ (by omega)) km_X6_77 ki_X6_ofPlot ke_X6_ofPlot kn_X6 kc_X6_ofPlot rfl hdV_X6_ofPlot ⟨by decide, by decide⟩ (show 10 < 11 ∧ 0 < bs 10 from ⟨by decide, by decide⟩) rfl rfl rfl hl.1 rfl (Nat.le_of_ble_eq_true rfl) dX6_reason_40 (fun z6 w6 H1 locs1 rz6 hp6 hW => ?_)
      obtain ⟨hp6, hq6⟩ := hp6
      subst hq6
      have rz6a := rz6.1
      have rz6b := rz6.2
      try simp (decide := true) only [id, up_s, gA_s, gA_sn, gN_sF, gA_sS, gN_sS, sA_st, sF_sF, sF_sS, sS_sS, arr_s, arr_n, arr_S, gA_aI, if_true, if_false, true_and, and_true, false_and, and_false, recS_1, gN_rec, iIt0, iIt1] at hp6
      refine r_if_ne (tgt := 50) hx hb rz6 dX6_reason_43 (by decide) (fun c7 => ?_) (fun c7 => ?_)
      · refine r_iconst hx hb dX6_reason_50 ?_
        exact r_iret C0 hW ⟨by omega, by omega⟩ (⟨by unfold rsA; first | exact Or.inl ⟨rfl, by omega⟩ | (refine Or.inr ⟨by omega, ?_⟩; first | exact Or.inl ⟨rfl, by omega⟩ | (refine Or.inr ⟨by omega, ?_⟩; first | exact Or.inl ⟨rfl, by omega⟩ | (refine Or.inr ⟨by omega, ?_⟩; first | exact Or.inl ⟨rfl, Or.inl (by assumption)⟩ | exact Or.inl ⟨rfl, Or.inr (Or.inl (by assumption))⟩ | exact Or.inl ⟨rfl, Or.inr (Or.inr (by assumption))⟩ | exact Or.inr ⟨rfl, by assumption, by assumption, by assumption⟩))) | omega, rfl⟩) dX6_reason_51
      · refine r_iconst hx hb dX6_reason_46 ?_
        refine lv_goto (tgt := 51) hx hb dX6_reason_47 (by decide) ?_
        exact r_iret C0 hW ⟨by omega, by omega⟩ (⟨by unfold rsA; first | exact Or.inl ⟨rfl, by omega⟩ | (refine Or.inr ⟨by omega, ?_⟩; first | exact Or.inl ⟨rfl, by omega⟩ | (refine Or.inr ⟨by omega, ?_⟩; first | exact Or.inl ⟨rfl, by omega⟩ | (refine Or.inr ⟨by omega, ?_⟩; first | exact Or.inl ⟨rfl, Or.inl (by assumption)⟩ | exact Or.inl ⟨rfl, Or.inr (Or.inl (by assumption))⟩ | exact Or.inl ⟨rfl, Or.inr (Or.inr (by assumption))⟩ | exact Or.inr ⟨rfl, by assumption, by assumption, by assumption⟩))) | omega, rfl⟩) dX6_reason_51
    · refine lv_aload_n hx hb dX6_reason_26 rfl (lv_at hl 0 rfl) ?_
      refine r_gR C0 hW (show 10 < 11 ∧ 0 < bs 10 from ⟨by decide, by decide⟩) rfl rfl hiX6 (k := 1) (by decide) kf_X6_7 rfl rfl rfl dX6_reason_27 ?_
      refine r_iconst hx hb dX6_reason_30 ?_
      refine r_ild C0 hW (show 10 < 11 ∧ 1 < bs 10 from ⟨by decide, by decide⟩) rfl (n := 941) (by omega) (by omega) (by omega) dX6_reason_31 (fun z8 (hz8 : z8 = gA (w 10) 1 4) rz8 => ?_)
      have rz8a := rz8.1
      have rz8b := rz8.2
      try simp (decide := true) only [id, up_s, gA_s, gA_sn, gN_sF, gA_sS, gN_sS, sA_st, sF_sF, sF_sS, sS_sS, arr_s, arr_n, arr_S, gA_aI, if_true, if_false, true_and, and_true, false_and, and_false, recS_1, gN_rec, iIt0, iIt1] at hz8
      refine r_bipush hx hb dX6_reason_32 (by decide) ?_
      refine r_icmp_ne (tgt := 52) hx hb rz8 ⟨by omega, by omega⟩ dX6_reason_34 (by decide) (fun c9 => ?_) (fun c9 => ?_)
      · refine lv_aload_n hx hb dX6_reason_52 rfl (lv_at hl 0 rfl) ?_
        refine lv_iload_n hx hb dX6_reason_53 rfl (lv_at hl 1 rfl) ?_
        refine lv_iload_n hx hb dX6_reason_54 rfl (lv_at hl 2 rfl) ?_
        refine k_Vi (j := 10) (k0 := 0) C0 hW (c_X6_hasRight l G w co pl rco rpl) km_X6_86 ki_X6_hasRight ke_X6_hasRight kn_X6 kc_X6_hasRight rfl hdV_X6_hasRight ⟨by decide, by decide⟩ (show 10 < 11 ∧ 0 < bs 10 from ⟨by decide, by decide⟩) rfl rfl rfl hl.1 rfl (Nat.le_of_ble_eq_true rfl) dX6_reason_55 (fun z10 w10 H1 locs1 rz10 hp10 hW => ?_)
        obtain ⟨hp10, hq10⟩ := hp10
        subst hq10
        have rz10a := rz10.1
        have rz10b := rz10.2
        try simp (decide := true) only [id, up_s, gA_s, gA_sn, gN_sF, gA_sS, gN_sS, sA_st, sF_sF, sF_sS, sS_sS, arr_s, arr_n, arr_S, gA_aI, if_true, if_false, true_and, and_true, false_and, and_false, recS_1, gN_rec, iIt0, iIt1] at hp10
        rcases hp10 with ⟨e10, hp10⟩ | ⟨e10, hp10⟩
        · subst e10
          refine r_if_ne (tgt := 83) hx hb ⟨by omega, by omega⟩ dX6_reason_58 (by decide) (fun _ => ?_) (fun q => absurd q (by decide))
          refine r_iconst hx hb dX6_reason_83 ?_
          refine lv_goto (tgt := 88) hx hb dX6_reason_84 (by decide) ?_
          exact r_iret C0 hW ⟨by omega, by omega⟩ (⟨by unfold rsA; first | exact Or.inl ⟨rfl, by omega⟩ | (refine Or.inr ⟨by omega, ?_⟩; first | exact Or.inl ⟨rfl, by omega⟩ | (refine Or.inr ⟨by omega, ?_⟩; first | exact Or.inl ⟨rfl, by omega⟩ | (refine Or.inr ⟨by omega, ?_⟩; first | exact Or.inl ⟨rfl, Or.inl (by assumption)⟩ | exact Or.inl ⟨rfl, Or.inr (Or.inl (by assumption))⟩ | exact Or.inl ⟨rfl, Or.inr (Or.inr (by assumption))⟩ | exact Or.inr ⟨rfl, by assumption, by assumption, by assumption⟩))) | omega, rfl⟩) dX6_reason_88
        · subst e10
          refine r_if_ne (tgt := 83) hx hb ⟨by omega, by omega⟩ dX6_reason_58 (by decide) (fun q => absurd q (by decide)) (fun _ => ?_)
          refine lv_aload_n hx hb dX6_reason_61 rfl (lv_at hl 0 rfl) ?_
          refine lv_iload_n hx hb dX6_reason_62 rfl (lv_at hl 1 rfl) ?_
          refine lv_iload_n hx hb dX6_reason_63 rfl (lv_at hl 2 rfl) ?_
          refine r_iconst hx hb dX6_reason_64 ?_
          refine r_isub hx hb dX6_reason_65 ?_
          refine k_Vi (j := 10) (k0 := 0) C0 hW (c_X6_hasRight l G w co (pl - 1) rco ⟨by omega, by omega⟩) km_X6_86 ki_X6_hasRight ke_X6_hasRight kn_X6 kc_X6_hasRight rfl hdV_X6_hasRight ⟨by decide, by decide⟩ (show 10 < 11 ∧ 0 < bs 10 from ⟨by decide, by decide⟩) rfl rfl rfl hl.1 rfl (Nat.le_of_ble_eq_true rfl) dX6_reason_66 (fun z11 w11 H1 locs1 rz11 hp11 hW => ?_)
          obtain ⟨hp11, hq11⟩ := hp11
          subst hq11
          have rz11a := rz11.1
          have rz11b := rz11.2
          try simp (decide := true) only [id, up_s, gA_s, gA_sn, gN_sF, gA_sS, gN_sS, sA_st, sF_sF, sF_sS, sS_sS, arr_s, arr_n, arr_S, gA_aI, if_true, if_false, true_and, and_true, false_and, and_false, recS_1, gN_rec, iIt0, iIt1] at hp11
          rcases hp11 with ⟨e11, hp11⟩ | ⟨e11, hp11⟩
          · subst e11
            refine r_if_ne (tgt := 83) hx hb ⟨by omega, by omega⟩ dX6_reason_69 (by decide) (fun _ => ?_) (fun q => absurd q (by decide))
            refine r_iconst hx hb dX6_reason_83 ?_
            refine lv_goto (tgt := 88) hx hb dX6_reason_84 (by decide) ?_
            exact r_iret C0 hW ⟨by omega, by omega⟩ (⟨by unfold rsA; first | exact Or.inl ⟨rfl, by omega⟩ | (refine Or.inr ⟨by omega, ?_⟩; first | exact Or.inl ⟨rfl, by omega⟩ | (refine Or.inr ⟨by omega, ?_⟩; first | exact Or.inl ⟨rfl, by omega⟩ | (refine Or.inr ⟨by omega, ?_⟩; first | exact Or.inl ⟨rfl, Or.inl (by assumption)⟩ | exact Or.inl ⟨rfl, Or.inr (Or.inl (by assumption))⟩ | exact Or.inl ⟨rfl, Or.inr (Or.inr (by assumption))⟩ | exact Or.inr ⟨rfl, by assumption, by assumption, by assumption⟩))) | omega, rfl⟩) dX6_reason_88
          · subst e11
            refine r_if_ne (tgt := 83) hx hb ⟨by omega, by omega⟩ dX6_reason_69 (by decide) (fun q => absurd q (by decide)) (fun _ => ?_)
            refine lv_aload_n hx hb dX6_reason_72 rfl (lv_at hl 0 rfl) ?_
            refine lv_iload_n hx hb dX6_reason_73 rfl (lv_at hl 1 rfl) ?_
            refine lv_iload_n hx hb dX6_reason_74 rfl (lv_at hl 2 rfl) ?_
            refine r_iconst hx hb dX6_reason_75 ?_
            refine r_iadd hx hb dX6_reason_76 ?_
            refine k_Vi (j := 10) (k0 := 0) C0 hW (c_X6_hasRight l G w co (pl + 1) rco ⟨by omega, by omega⟩) km_X6_86 ki_X6_hasRight ke_X6_hasRight kn_X6 kc_X6_hasRight rfl hdV_X6_hasRight ⟨by decide, by decide⟩ (show 10 < 11 ∧ 0 < bs 10 from ⟨by decide, by decide⟩) rfl rfl rfl hl.1 rfl (Nat.le_of_ble_eq_true rfl) dX6_reason_77 (fun z12 w12 H1 locs1 rz12 hp12 hW => ?_)
            obtain ⟨hp12, hq12⟩ := hp12
            subst hq12
            have rz12a := rz12.1
            have rz12b := rz12.2
            try simp (decide := true) only [id, up_s, gA_s, gA_sn, gN_sF, gA_sS, gN_sS, sA_st, sF_sF, sF_sS, sS_sS, arr_s, arr_n, arr_S, gA_aI, if_true, if_false, true_and, and_true, false_and, and_false, recS_1, gN_rec, iIt0, iIt1] at hp12
            rcases hp12 with ⟨e12, hp12⟩ | ⟨e12, hp12⟩
            · subst e12
              refine r_if_eq (tgt := 87) hx hb ⟨by omega, by omega⟩ dX6_reason_80 (by decide) (fun q => absurd q (by decide)) (fun _ => ?_)
              refine r_iconst hx hb dX6_reason_83 ?_
              refine lv_goto (tgt := 88) hx hb dX6_reason_84 (by decide) ?_
              exact r_iret C0 hW ⟨by omega, by omega⟩ (⟨by unfold rsA; first | exact Or.inl ⟨rfl, by omega⟩ | (refine Or.inr ⟨by omega, ?_⟩; first | exact Or.inl ⟨rfl, by omega⟩ | (refine Or.inr ⟨by omega, ?_⟩; first | exact Or.inl ⟨rfl, by omega⟩ | (refine Or.inr ⟨by omega, ?_⟩; first | exact Or.inl ⟨rfl, Or.inl (by assumption)⟩ | exact Or.inl ⟨rfl, Or.inr (Or.inl (by assumption))⟩ | exact Or.inl ⟨rfl, Or.inr (Or.inr (by assumption))⟩ | exact Or.inr ⟨rfl, by assumption, by assumption, by assumption⟩))) | omega, rfl⟩) dX6_reason_88
            · subst e12
              refine r_if_eq (tgt := 87) hx hb ⟨by omega, by omega⟩ dX6_reason_80 (by decide) (fun _ => ?_) (fun q => absurd q (by decide))
              refine r_iconst hx hb dX6_reason_87 ?_
              exact r_iret C0 hW ⟨by omega, by omega⟩ (⟨by unfold rsA; first | exact Or.inl ⟨rfl, by omega⟩ | (refine Or.inr ⟨by omega, ?_⟩; first | exact Or.inl ⟨rfl, by omega⟩ | (refine Or.inr ⟨by omega, ?_⟩; first | exact Or.inl ⟨rfl, by omega⟩ | (refine Or.inr ⟨by omega, ?_⟩; first | exact Or.inl ⟨rfl, Or.inl (by assumption)⟩ | exact Or.inl ⟨rfl, Or.inr (Or.inl (by assumption))⟩ | exact Or.inl ⟨rfl, Or.inr (Or.inr (by assumption))⟩ | exact Or.inr ⟨rfl, by assumption, by assumption, by assumption⟩))) | omega, rfl⟩) dX6_reason_88
      · refine lv_aload_n hx hb dX6_reason_37 rfl (lv_at hl 0 rfl) ?_
        refine lv_iload_n hx hb dX6_reason_38 rfl (lv_at hl 2 rfl) ?_
        refine r_iconst hx hb dX6_reason_39 ?_
        refine k_Vi (j := 10) (k0 := 0) C0 hW (c_X6_ofPlot l G w pl 0 rpl ⟨by omega, by omega⟩ (by omega)) km_X6_77 ki_X6_ofPlot ke_X6_ofPlot kn_X6 kc_X6_ofPlot rfl hdV_X6_ofPlot ⟨by decide, by decide⟩ (show 10 < 11 ∧ 0 < bs 10 from ⟨by decide, by decide⟩) rfl rfl rfl hl.1 rfl (Nat.le_of_ble_eq_true rfl) dX6_reason_40 (fun z13 w13 H1 locs1 rz13 hp13 hW => ?_)
        obtain ⟨hp13, hq13⟩ := hp13
        subst hq13
        have rz13a := rz13.1
        have rz13b := rz13.2
        try simp (decide := true) only [id, up_s, gA_s, gA_sn, gN_sF, gA_sS, gN_sS, sA_st, sF_sF, sF_sS, sS_sS, arr_s, arr_n, arr_S, gA_aI, if_true, if_false, true_and, and_true, false_and, and_false, recS_1, gN_rec, iIt0, iIt1] at hp13
        refine r_if_ne (tgt := 50) hx hb rz13 dX6_reason_43 (by decide) (fun c14 => ?_) (fun c14 => ?_)
        · refine r_iconst hx hb dX6_reason_50 ?_
          exact r_iret C0 hW ⟨by omega, by omega⟩ (⟨by unfold rsA; first | exact Or.inl ⟨rfl, by omega⟩ | (refine Or.inr ⟨by omega, ?_⟩; first | exact Or.inl ⟨rfl, by omega⟩ | (refine Or.inr ⟨by omega, ?_⟩; first | exact Or.inl ⟨rfl, by omega⟩ | (refine Or.inr ⟨by omega, ?_⟩; first | exact Or.inl ⟨rfl, Or.inl (by assumption)⟩ | exact Or.inl ⟨rfl, Or.inr (Or.inl (by assumption))⟩ | exact Or.inl ⟨rfl, Or.inr (Or.inr (by assumption))⟩ | exact Or.inr ⟨rfl, by assumption, by assumption, by assumption⟩))) | omega, rfl⟩) dX6_reason_51
        · refine r_iconst hx hb dX6_reason_46 ?_
          refine lv_goto (tgt := 51) hx hb dX6_reason_47 (by decide) ?_
          exact r_iret C0 hW ⟨by omega, by omega⟩ (⟨by unfold rsA; first | exact Or.inl ⟨rfl, by omega⟩ | (refine Or.inr ⟨by omega, ?_⟩; first | exact Or.inl ⟨rfl, by omega⟩ | (refine Or.inr ⟨by omega, ?_⟩; first | exact Or.inl ⟨rfl, by omega⟩ | (refine Or.inr ⟨by omega, ?_⟩; first | exact Or.inl ⟨rfl, Or.inl (by assumption)⟩ | exact Or.inl ⟨rfl, Or.inr (Or.inl (by assumption))⟩ | exact Or.inl ⟨rfl, Or.inr (Or.inr (by assumption))⟩ | exact Or.inr ⟨rfl, by assumption, by assumption, by assumption⟩))) | omega, rfl⟩) dX6_reason_51
  · refine r_iconst hx hb dX6_reason_15 ?_
    exact r_iret C0 hW ⟨by omega, by omega⟩ (⟨by unfold rsA; first | exact Or.inl ⟨rfl, by omega⟩ | (refine Or.inr ⟨by omega, ?_⟩; first | exact Or.inl ⟨rfl, by omega⟩ | (refine Or.inr ⟨by omega, ?_⟩; first | exact Or.inl ⟨rfl, by omega⟩ | (refine Or.inr ⟨by omega, ?_⟩; first | exact Or.inl ⟨rfl, Or.inl (by assumption)⟩ | exact Or.inl ⟨rfl, Or.inr (Or.inl (by assumption))⟩ | exact Or.inl ⟨rfl, Or.inr (Or.inr (by assumption))⟩ | exact Or.inr ⟨rfl, by assumption, by assumption, by assumption⟩))) | omega, rfl⟩) dX6_reason_16

/-- X6_lend: its end -/
def po_X6_lend (w : gW) (pl : Int) (co : Int) : Int → gW → Prop := fun z w1 => ((¬ ((0 ≤ pl ∧ pl ≤ 19) ∧ (0 ≤ co ∧ co ≤ 9))) ∧ (z = -1) ∧ (w1 = up w 10 (sS (w 10) 0 0 (iI 0)))) ∨ ((0 ≤ pl ∧ pl ≤ 19) ∧ (0 ≤ co ∧ co ≤ 9) ∧ (aI ((w 10).1 1) (41 + 3 * pl + 2) = co) ∧ (z = -5) ∧ (w1 = up w 10 (sS (w 10) 0 0 (iI 0)))) ∨ ((0 ≤ pl ∧ pl ≤ 19) ∧ (0 ≤ co ∧ co ≤ 9) ∧ (¬ aI ((w 10).1 1) (41 + 3 * pl + 2) = co) ∧ (z = aI ((w 10).1 1) (41 + 3 * pl + 2)) ∧ (w1 = up w 10 (sF (recS (sS (w 10) 0 0 (iI 0))) 1 (st ((w 10).1 1) (41 + 3 * pl + 2) (iI co)))))
theorem hdV_X6_lend : yX6_lend.cls = RX6 ∧ yX6_lend.cls ≠ "java/lang/invoke/MethodHandle" ∧ yX6_lend.cls ≠ "java/lang/invoke/VarHandle" ∧ (parseMethodDescriptor yX6_lend.desc).map (fun d => d.parameters.length) = some 2 := by decide +kernel
set_option maxHeartbeats 4000000 in
set_option maxRecDepth 100000 in
theorem c_X6_lend (l : Launch) (G : gG) (w : gW) (pl : Int) (co : Int) (rpl : inR pl) (rco : inR co) (hM : mO w) : mI l G yX6_lend (wU yX6_lend cX6_lend 4 (some .int)) (rmL 2 42) [.ref (ad G 10 0), .int (iI pl), .int (iI co)] w (po_X6_lend w pl co) := by
  refine mI_of (by decide +kernel) (Nat.le_of_ble_eq_true rfl) (fun p e s m args below meth c ls C0 hW hl => ?_)
  have hl : lv_has ls 4 [(0, .ref (ad G 10 0)), (1, .int (iI pl)), (2, .int (iI co))] := hl
  have hx := C0.hx
  have hb := C0.hb
  obtain ⟨hwA, hop, hds, hsm, hln, hdy, hsk⟩ := id hM
  obtain ⟨hv1, hv2, hv3, hv4⟩ := id hwA
  refine lv_aload_n hx hb dX6_lend_0 rfl (lv_at hl 0 rfl) ?_
  refine r_iconst hx hb dX6_lend_1 ?_
  refine r_pI C0 hW (show 10 < 11 ∧ 0 < bs 10 from ⟨by decide, by decide⟩) rfl rfl hiX6 tyX6 tyX6_ok nmX6 (k := 0) (v := iI 0) (by decide) kf_X6_28 rfl rfl rfl (tyX6_ok 0 (by decide)) rfl rfl (by simp) rfl dX6_lend_2 (fun H1 locs1 hW => ?_)
  obtain ⟨w1, hw1⟩ : ∃ wq9 : gW, wq9 = up w 10 (sS (w 10) 0 0 (iI 0)) := ⟨_, rfl⟩
  rw [← hw1] at hW
  refine lv_iload_n hx hb dX6_lend_5 rfl (lv_at hl 1 rfl) ?_
  refine k_Si (host := "") C0 hW (As := [.int (iI pl)]) (c_X6_isPlot l G w1 pl rpl) km_X6_70 ks_X6_isPlot kn_X6 kc_X6_isPlot rfl hdS_X6_isPlot ⟨by decide, by decide⟩ rfl hl.1 rfl (Nat.le_of_ble_eq_true rfl) dX6_lend_6 (fun z2 w2 H1 locs1 rz2 hp2 hW => ?_)
  obtain ⟨hp2, hq2⟩ := hp2
  subst hq2
  have rz2a := rz2.1
  have rz2b := rz2.2
  try simp (decide := true) only [hw1, up_s, gA_s, gA_sn, gN_sF, gA_sS, gN_sS, sA_st, sF_sF, sF_sS, sS_sS, arr_s, arr_n, arr_S, gA_aI, if_true, if_false, true_and, and_true, false_and, and_false, recS_1, gN_rec, iIt0, iIt1] at hp2
  rcases hp2 with ⟨e2, hp2⟩ | ⟨e2, hp2⟩
  · subst e2
    refine r_if_eq (tgt := 19) hx hb ⟨by omega, by omega⟩ dX6_lend_9 (by decide) (fun q => absurd q (by decide)) (fun _ => ?_)
    refine lv_iload_n hx hb dX6_lend_12 rfl (lv_at hl 2 rfl) ?_
    refine k_Si (host := "") C0 hW (As := [.int (iI co)]) (c_X6_isCommoner l G w1 co rco) km_X6_74 ks_X6_isCommoner kn_X6 kc_X6_isCommoner rfl hdS_X6_isCommoner ⟨by decide, by decide⟩ rfl hl.1 rfl (Nat.le_of_ble_eq_true rfl) dX6_lend_13 (fun z3 w3 H1 locs1 rz3 hp3 hW => ?_)
    obtain ⟨hp3, hq3⟩ := hp3
    subst hq3
    have rz3a := rz3.1
    have rz3b := rz3.2
    try simp (decide := true) only [hw1, up_s, gA_s, gA_sn, gN_sF, gA_sS, gN_sS, sA_st, sF_sF, sF_sS, sS_sS, arr_s, arr_n, arr_S, gA_aI, if_true, if_false, true_and, and_true, false_and, and_false, recS_1, gN_rec, iIt0, iIt1] at hp3
    rcases hp3 with ⟨e3, hp3⟩ | ⟨e3, hp3⟩
    · subst e3
      refine r_if_ne (tgt := 21) hx hb ⟨by omega, by omega⟩ dX6_lend_16 (by decide) (fun _ => ?_) (fun q => absurd q (by decide))
      refine lv_aload_n hx hb dX6_lend_21 rfl (lv_at hl 0 rfl) ?_
      refine lv_iload_n hx hb dX6_lend_22 rfl (lv_at hl 1 rfl) ?_
      refine r_iconst hx hb dX6_lend_23 ?_
      refine k_Vi (j := 10) (k0 := 0) C0 hW (c_X6_ofPlot l G w1 pl 2 rpl ⟨by omega, by omega⟩ (by omega)) km_X6_77 ki_X6_ofPlot ke_X6_ofPlot kn_X6 kc_X6_ofPlot rfl hdV_X6_ofPlot ⟨by decide, by decide⟩ (show 10 < 11 ∧ 0 < bs 10 from ⟨by decide, by decide⟩) rfl rfl rfl hl.1 rfl (Nat.le_of_ble_eq_true rfl) dX6_lend_24 (fun z4 w4 H1 locs1 rz4 hp4 hW => ?_)
      obtain ⟨hp4, hq4⟩ := hp4
      subst hq4
      have rz4a := rz4.1
      have rz4b := rz4.2
      try simp (decide := true) only [hw1, up_s, gA_s, gA_sn, gN_sF, gA_sS, gN_sS, sA_st, sF_sF, sF_sS, sS_sS, arr_s, arr_n, arr_S, gA_aI, if_true, if_false, true_and, and_true, false_and, and_false, recS_1, gN_rec, iIt0, iIt1] at hp4
      refine lv_istore_n (lv' := [(3, .int (iI z4)), (0, .ref (ad G 10 0)), (1, .int (iI pl)), (2, .int (iI co))]) hx hb dX6_lend_27 rfl hl (by decide) rfl (fun ls hl => ?_)
      refine lv_iload_n hx hb dX6_lend_28 rfl (lv_at hl 0 rfl) ?_
      refine lv_iload_n hx hb dX6_lend_29 rfl (lv_at hl 3 rfl) ?_
      refine r_icmp_ne (tgt := 36) hx hb rz4 rco dX6_lend_30 (by decide) (fun c5 => ?_) (fun c5 => ?_)
      · refine lv_aload_n hx hb dX6_lend_36 rfl (lv_at hl 1 rfl) ?_
        refine k_Vv (j := 10) (k0 := 0) C0 hW (c_X6_records l G w1 (by first | omega | (simp (decide := true) only [hw1, up_s, gA_s, gA_sn, gN_sF, gA_sS, gN_sS, sA_st, sF_sF, sF_sS, sS_sS, arr_s, arr_n, arr_S, gA_aI, if_true, if_false, true_and, and_true, false_and, and_false, recS_1, gN_rec, iIt0, iIt1] <;> omega))) km_X6_80 ki_X6_records ke_X6_records kn_X6 kc_X6_records rfl hdV_X6_records ⟨by decide, by decide⟩ (show 10 < 11 ∧ 0 < bs 10 from ⟨by decide, by decide⟩) rfl rfl rfl hl.1 rfl (Nat.le_of_ble_eq_true rfl) dX6_lend_37 (fun w6 H1 locs1 hp6 hW => ?_)
        have hw6 : w6 = _ := hp6
        refine lv_aload_n hx hb dX6_lend_40 rfl (lv_at hl 1 rfl) ?_
        refine r_gR C0 hW (show 10 < 11 ∧ 0 < bs 10 from ⟨by decide, by decide⟩) rfl rfl hiX6 (k := 1) (by decide) kf_X6_7 rfl rfl rfl dX6_lend_41 ?_
        refine r_bipush hx hb dX6_lend_44 (by decide) ?_
        refine r_iconst hx hb dX6_lend_46 ?_
        refine lv_iload_n hx hb dX6_lend_47 rfl (lv_at hl 2 rfl) ?_
        refine r_imul hx hb dX6_lend_48 ?_
        refine r_iadd hx hb dX6_lend_49 ?_
        refine r_iconst hx hb dX6_lend_50 ?_
        refine r_iadd hx hb dX6_lend_51 ?_
        refine lv_iload_n hx hb dX6_lend_52 rfl (lv_at hl 3 rfl) ?_
        refine r_ist C0 hW (show 10 < 11 ∧ 1 < bs 10 from ⟨by decide, by decide⟩) (fun A => rfl) (n := 941) (v := iI co) (by omega) (by omega) (by decide) dX6_lend_53 (fun H1 locs1 hW => ?_)
        obtain ⟨w7, hw7⟩ : ∃ wq9 : gW, wq9 = up w6 10 (sA (w6 10) 1 ((41 + (3 * pl)) + 2) (iI co)) := ⟨_, rfl⟩
        rw [← hw7] at hW
        refine lv_iload_n hx hb dX6_lend_54 rfl (lv_at hl 0 rfl) ?_
        exact r_iret C0 hW rz4 (by first | exact Or.inl (⟨(by first | assumption | omega | trivial), (by first | omega | assumption | (simp only [hp4])), (by simp (decide := true) only [hw7, hw6, hw1, up_up, up_s, gA_s, gA_sn, gN_sF, gA_sS, gN_sS, sA_st, sF_sF, sF_sS, sS_sS, arr_s, arr_n, arr_S, gA_aI, if_true, if_false, true_and, and_true, false_and, and_false, recS_1, gN_rec, iIt0, iIt1, hp4])⟩) | exact Or.inr (Or.inl (⟨(by first | assumption | omega | trivial), (by first | assumption | omega | trivial), (by first | assumption | omega | trivial), (by first | omega | assumption | (simp only [hp4])), (by simp (decide := true) only [hw7, hw6, hw1, up_up, up_s, gA_s, gA_sn, gN_sF, gA_sS, gN_sS, sA_st, sF_sF, sF_sS, sS_sS, arr_s, arr_n, arr_S, gA_aI, if_true, if_false, true_and, and_true, false_and, and_false, recS_1, gN_rec, iIt0, iIt1, hp4])⟩)) | exact Or.inr (Or.inr (⟨(by first | assumption | omega | trivial), (by first | assumption | omega | trivial), (by first | assumption | omega | trivial), (by first | omega | assumption | (simp only [hp4])), (by simp (decide := true) only [hw7, hw6, hw1, up_up, up_s, gA_s, gA_sn, gN_sF, gA_sS, gN_sS, sA_st, sF_sF, sF_sS, sS_sS, arr_s, arr_n, arr_S, gA_aI, if_true, if_false, true_and, and_true, false_and, and_false, recS_1, gN_rec, iIt0, iIt1, hp4])⟩))) dX6_lend_55
      · refine r_bipush hx hb dX6_lend_33 (by decide) ?_
        exact r_iret C0 hW ⟨by omega, by omega⟩ (by first | exact Or.inl (⟨(by first | assumption | omega | trivial), (by first | omega | assumption | (simp only [hp4])), (by simp (decide := true) only [hw1, up_up, up_s, gA_s, gA_sn, gN_sF, gA_sS, gN_sS, sA_st, sF_sF, sF_sS, sS_sS, arr_s, arr_n, arr_S, gA_aI, if_true, if_false, true_and, and_true, false_and, and_false, recS_1, gN_rec, iIt0, iIt1, hp4])⟩) | exact Or.inr (Or.inl (⟨(by first | assumption | omega | trivial), (by first | assumption | omega | trivial), (by first | assumption | omega | trivial), (by first | omega | assumption | (simp only [hp4])), (by simp (decide := true) only [hw1, up_up, up_s, gA_s, gA_sn, gN_sF, gA_sS, gN_sS, sA_st, sF_sF, sF_sS, sS_sS, arr_s, arr_n, arr_S, gA_aI, if_true, if_false, true_and, and_true, false_and, and_false, recS_1, gN_rec, iIt0, iIt1, hp4])⟩)) | exact Or.inr (Or.inr (⟨(by first | assumption | omega | trivial), (by first | assumption | omega | trivial), (by first | assumption | omega | trivial), (by first | omega | assumption | (simp only [hp4])), (by simp (decide := true) only [hw1, up_up, up_s, gA_s, gA_sn, gN_sF, gA_sS, gN_sS, sA_st, sF_sF, sF_sS, sS_sS, arr_s, arr_n, arr_S, gA_aI, if_true, if_false, true_and, and_true, false_and, and_false, recS_1, gN_rec, iIt0, iIt1, hp4])⟩))) dX6_lend_35
    · subst e3
      refine r_if_ne (tgt := 21) hx hb ⟨by omega, by omega⟩ dX6_lend_16 (by decide) (fun q => absurd q (by decide)) (fun _ => ?_)
      refine r_iconst hx hb dX6_lend_19 ?_
      exact r_iret C0 hW ⟨by omega, by omega⟩ (by first | exact Or.inl (⟨(by first | assumption | omega | trivial), (by first | omega | assumption | (simp only [id])), (by simp (decide := true) only [hw1, up_up, up_s, gA_s, gA_sn, gN_sF, gA_sS, gN_sS, sA_st, sF_sF, sF_sS, sS_sS, arr_s, arr_n, arr_S, gA_aI, if_true, if_false, true_and, and_true, false_and, and_false, recS_1, gN_rec, iIt0, iIt1, id])⟩) | exact Or.inr (Or.inl (⟨(by first | assumption | omega | trivial), (by first | assumption | omega | trivial), (by first | assumption | omega | trivial), (by first | omega | assumption | (simp only [id])), (by simp (decide := true) only [hw1, up_up, up_s, gA_s, gA_sn, gN_sF, gA_sS, gN_sS, sA_st, sF_sF, sF_sS, sS_sS, arr_s, arr_n, arr_S, gA_aI, if_true, if_false, true_and, and_true, false_and, and_false, recS_1, gN_rec, iIt0, iIt1, id])⟩)) | exact Or.inr (Or.inr (⟨(by first | assumption | omega | trivial), (by first | assumption | omega | trivial), (by first | assumption | omega | trivial), (by first | omega | assumption | (simp only [id])), (by simp (decide := true) only [hw1, up_up, up_s, gA_s, gA_sn, gN_sF, gA_sS, gN_sS, sA_st, sF_sF, sF_sS, sS_sS, arr_s, arr_n, arr_S, gA_aI, if_true, if_false, true_and, and_true, false_and, and_false, recS_1, gN_rec, iIt0, iIt1, id])⟩))) dX6_lend_20
  · subst e2
    refine r_if_eq (tgt := 19) hx hb ⟨by omega, by omega⟩ dX6_lend_9 (by decide) (fun _ => ?_) (fun q => absurd q (by decide))
    refine r_iconst hx hb dX6_lend_19 ?_
    exact r_iret C0 hW ⟨by omega, by omega⟩ (by first | exact Or.inl (⟨(by first | assumption | omega | trivial), (by first | omega | assumption | (simp only [id])), (by simp (decide := true) only [hw1, up_up, up_s, gA_s, gA_sn, gN_sF, gA_sS, gN_sS, sA_st, sF_sF, sF_sS, sS_sS, arr_s, arr_n, arr_S, gA_aI, if_true, if_false, true_and, and_true, false_and, and_false, recS_1, gN_rec, iIt0, iIt1, id])⟩) | exact Or.inr (Or.inl (⟨(by first | assumption | omega | trivial), (by first | assumption | omega | trivial), (by first | assumption | omega | trivial), (by first | omega | assumption | (simp only [id])), (by simp (decide := true) only [hw1, up_up, up_s, gA_s, gA_sn, gN_sF, gA_sS, gN_sS, sA_st, sF_sF, sF_sS, sS_sS, arr_s, arr_n, arr_S, gA_aI, if_true, if_false, true_and, and_true, false_and, and_false, recS_1, gN_rec, iIt0, iIt1, id])⟩)) | exact Or.inr (Or.inr (⟨(by first | assumption | omega | trivial), (by first | assumption | omega | trivial), (by first | assumption | omega | trivial), (by first | omega | assumption | (simp only [id])), (by simp (decide := true) only [hw1, up_up, up_s, gA_s, gA_sn, gN_sF, gA_sS, gN_sS, sA_st, sF_sF, sF_sS, sS_sS, arr_s, arr_n, arr_S, gA_aI, if_true, if_false, true_and, and_true, false_and, and_false, recS_1, gN_rec, iIt0, iIt1, id])⟩))) dX6_lend_20

/-- X6_handOver: its end -/
def po_X6_handOver (w : gW) (pl : Int) (co : Int) : Int → gW → Prop := fun z w1 => ((¬ ((0 ≤ pl ∧ pl ≤ 19) ∧ (0 ≤ co ∧ co ≤ 9))) ∧ (z = -1) ∧ (w1 = up w 10 (sS (w 10) 0 0 (iI 0)))) ∨ ((0 ≤ pl ∧ pl ≤ 19) ∧ (0 ≤ co ∧ co ≤ 9) ∧ (aI ((w 10).1 1) (41 + 3 * pl + 1) = co) ∧ (z = -5) ∧ (w1 = up w 10 (sS (w 10) 0 0 (iI 0)))) ∨ ((0 ≤ pl ∧ pl ≤ 19) ∧ (0 ≤ co ∧ co ≤ 9) ∧ (¬ aI ((w 10).1 1) (41 + 3 * pl + 1) = co) ∧ (z = aI ((w 10).1 1) (41 + 3 * pl + 1)) ∧ (w1 = up w 10 (sF (recS (sS (w 10) 0 0 (iI 0))) 1 (st (st ((w 10).1 1) (41 + 3 * pl + 1) (iI co)) (41 + 3 * pl + 2) (iI co)))))
theorem hdV_X6_handOver : yX6_handOver.cls = RX6 ∧ yX6_handOver.cls ≠ "java/lang/invoke/MethodHandle" ∧ yX6_handOver.cls ≠ "java/lang/invoke/VarHandle" ∧ (parseMethodDescriptor yX6_handOver.desc).map (fun d => d.parameters.length) = some 2 := by decide +kernel
set_option maxHeartbeats 4000000 in
set_option maxRecDepth 100000 in
theorem c_X6_handOver (l : Launch) (G : gG) (w : gW) (pl : Int) (co : Int) (rpl : inR pl) (rco : inR co) (hM : mO w) : mI l G yX6_handOver (wU yX6_handOver cX6_handOver 4 (some .int)) (rmL 2 42) [.ref (ad G 10 0), .int (iI pl), .int (iI co)] w (po_X6_handOver w pl co) := by
  refine mI_of (by decide +kernel) (Nat.le_of_ble_eq_true rfl) (fun p e s m args below meth c ls C0 hW hl => ?_)
  have hl : lv_has ls 4 [(0, .ref (ad G 10 0)), (1, .int (iI pl)), (2, .int (iI co))] := hl
  have hx := C0.hx
  have hb := C0.hb
  obtain ⟨hwA, hop, hds, hsm, hln, hdy, hsk⟩ := id hM
  obtain ⟨hv1, hv2, hv3, hv4⟩ := id hwA
  refine lv_aload_n hx hb dX6_handOver_0 rfl (lv_at hl 0 rfl) ?_
  refine r_iconst hx hb dX6_handOver_1 ?_
  refine r_pI C0 hW (show 10 < 11 ∧ 0 < bs 10 from ⟨by decide, by decide⟩) rfl rfl hiX6 tyX6 tyX6_ok nmX6 (k := 0) (v := iI 0) (by decide) kf_X6_28 rfl rfl rfl (tyX6_ok 0 (by decide)) rfl rfl (by simp) rfl dX6_handOver_2 (fun H1 locs1 hW => ?_)
  obtain ⟨w1, hw1⟩ : ∃ wq9 : gW, wq9 = up w 10 (sS (w 10) 0 0 (iI 0)) := ⟨_, rfl⟩
  rw [← hw1] at hW
  refine lv_iload_n hx hb dX6_handOver_5 rfl (lv_at hl 1 rfl) ?_
  refine k_Si (host := "") C0 hW (As := [.int (iI pl)]) (c_X6_isPlot l G w1 pl rpl) km_X6_70 ks_X6_isPlot kn_X6 kc_X6_isPlot rfl hdS_X6_isPlot ⟨by decide, by decide⟩ rfl hl.1 rfl (Nat.le_of_ble_eq_true rfl) dX6_handOver_6 (fun z2 w2 H1 locs1 rz2 hp2 hW => ?_)
  obtain ⟨hp2, hq2⟩ := hp2
  subst hq2
  have rz2a := rz2.1
  have rz2b := rz2.2
  try simp (decide := true) only [hw1, up_s, gA_s, gA_sn, gN_sF, gA_sS, gN_sS, sA_st, sF_sF, sF_sS, sS_sS, arr_s, arr_n, arr_S, gA_aI, if_true, if_false, true_and, and_true, false_and, and_false, recS_1, gN_rec, iIt0, iIt1] at hp2
  rcases hp2 with ⟨e2, hp2⟩ | ⟨e2, hp2⟩
  · subst e2
    refine r_if_eq (tgt := 19) hx hb ⟨by omega, by omega⟩ dX6_handOver_9 (by decide) (fun q => absurd q (by decide)) (fun _ => ?_)
    refine lv_iload_n hx hb dX6_handOver_12 rfl (lv_at hl 2 rfl) ?_
    refine k_Si (host := "") C0 hW (As := [.int (iI co)]) (c_X6_isCommoner l G w1 co rco) km_X6_74 ks_X6_isCommoner kn_X6 kc_X6_isCommoner rfl hdS_X6_isCommoner ⟨by decide, by decide⟩ rfl hl.1 rfl (Nat.le_of_ble_eq_true rfl) dX6_handOver_13 (fun z3 w3 H1 locs1 rz3 hp3 hW => ?_)
    obtain ⟨hp3, hq3⟩ := hp3
    subst hq3
    have rz3a := rz3.1
    have rz3b := rz3.2
    try simp (decide := true) only [hw1, up_s, gA_s, gA_sn, gN_sF, gA_sS, gN_sS, sA_st, sF_sF, sF_sS, sS_sS, arr_s, arr_n, arr_S, gA_aI, if_true, if_false, true_and, and_true, false_and, and_false, recS_1, gN_rec, iIt0, iIt1] at hp3
    rcases hp3 with ⟨e3, hp3⟩ | ⟨e3, hp3⟩
    · subst e3
      refine r_if_ne (tgt := 21) hx hb ⟨by omega, by omega⟩ dX6_handOver_16 (by decide) (fun _ => ?_) (fun q => absurd q (by decide))
      refine lv_aload_n hx hb dX6_handOver_21 rfl (lv_at hl 0 rfl) ?_
      refine lv_iload_n hx hb dX6_handOver_22 rfl (lv_at hl 1 rfl) ?_
      refine r_iconst hx hb dX6_handOver_23 ?_
      refine k_Vi (j := 10) (k0 := 0) C0 hW (c_X6_ofPlot l G w1 pl 1 rpl ⟨by omega, by omega⟩ (by omega)) km_X6_77 ki_X6_ofPlot ke_X6_ofPlot kn_X6 kc_X6_ofPlot rfl hdV_X6_ofPlot ⟨by decide, by decide⟩ (show 10 < 11 ∧ 0 < bs 10 from ⟨by decide, by decide⟩) rfl rfl rfl hl.1 rfl (Nat.le_of_ble_eq_true rfl) dX6_handOver_24 (fun z4 w4 H1 locs1 rz4 hp4 hW => ?_)
      obtain ⟨hp4, hq4⟩ := hp4
      subst hq4
      have rz4a := rz4.1
      have rz4b := rz4.2
      try simp (decide := true) only [hw1, up_s, gA_s, gA_sn, gN_sF, gA_sS, gN_sS, sA_st, sF_sF, sF_sS, sS_sS, arr_s, arr_n, arr_S, gA_aI, if_true, if_false, true_and, and_true, false_and, and_false, recS_1, gN_rec, iIt0, iIt1] at hp4
      refine lv_istore_n (lv' := [(3, .int (iI z4)), (0, .ref (ad G 10 0)), (1, .int (iI pl)), (2, .int (iI co))]) hx hb dX6_handOver_27 rfl hl (by decide) rfl (fun ls hl => ?_)
      refine lv_iload_n hx hb dX6_handOver_28 rfl (lv_at hl 0 rfl) ?_
      refine lv_iload_n hx hb dX6_handOver_29 rfl (lv_at hl 3 rfl) ?_
      refine r_icmp_ne (tgt := 36) hx hb rz4 rco dX6_handOver_30 (by decide) (fun c5 => ?_) (fun c5 => ?_)
      · refine lv_aload_n hx hb dX6_handOver_36 rfl (lv_at hl 1 rfl) ?_
        refine k_Vv (j := 10) (k0 := 0) C0 hW (c_X6_records l G w1 (by first | omega | (simp (decide := true) only [hw1, up_s, gA_s, gA_sn, gN_sF, gA_sS, gN_sS, sA_st, sF_sF, sF_sS, sS_sS, arr_s, arr_n, arr_S, gA_aI, if_true, if_false, true_and, and_true, false_and, and_false, recS_1, gN_rec, iIt0, iIt1] <;> omega))) km_X6_80 ki_X6_records ke_X6_records kn_X6 kc_X6_records rfl hdV_X6_records ⟨by decide, by decide⟩ (show 10 < 11 ∧ 0 < bs 10 from ⟨by decide, by decide⟩) rfl rfl rfl hl.1 rfl (Nat.le_of_ble_eq_true rfl) dX6_handOver_37 (fun w6 H1 locs1 hp6 hW => ?_)
        have hw6 : w6 = _ := hp6
        refine lv_aload_n hx hb dX6_handOver_40 rfl (lv_at hl 1 rfl) ?_
        refine r_gR C0 hW (show 10 < 11 ∧ 0 < bs 10 from ⟨by decide, by decide⟩) rfl rfl hiX6 (k := 1) (by decide) kf_X6_7 rfl rfl rfl dX6_handOver_41 ?_
        refine r_bipush hx hb dX6_handOver_44 (by decide) ?_
        refine r_iconst hx hb dX6_handOver_46 ?_
        refine lv_iload_n hx hb dX6_handOver_47 rfl (lv_at hl 2 rfl) ?_
        refine r_imul hx hb dX6_handOver_48 ?_
        refine r_iadd hx hb dX6_handOver_49 ?_
        refine r_iconst hx hb dX6_handOver_50 ?_
        refine r_iadd hx hb dX6_handOver_51 ?_
        refine lv_iload_n hx hb dX6_handOver_52 rfl (lv_at hl 3 rfl) ?_
        refine r_ist C0 hW (show 10 < 11 ∧ 1 < bs 10 from ⟨by decide, by decide⟩) (fun A => rfl) (n := 941) (v := iI co) (by omega) (by omega) (by decide) dX6_handOver_53 (fun H1 locs1 hW => ?_)
        obtain ⟨w7, hw7⟩ : ∃ wq9 : gW, wq9 = up w6 10 (sA (w6 10) 1 ((41 + (3 * pl)) + 1) (iI co)) := ⟨_, rfl⟩
        rw [← hw7] at hW
        refine lv_aload_n hx hb dX6_handOver_54 rfl (lv_at hl 1 rfl) ?_
        refine r_gR C0 hW (show 10 < 11 ∧ 0 < bs 10 from ⟨by decide, by decide⟩) rfl rfl hiX6 (k := 1) (by decide) kf_X6_7 rfl rfl rfl dX6_handOver_55 ?_
        refine r_bipush hx hb dX6_handOver_58 (by decide) ?_
        refine r_iconst hx hb dX6_handOver_60 ?_
        refine lv_iload_n hx hb dX6_handOver_61 rfl (lv_at hl 2 rfl) ?_
        refine r_imul hx hb dX6_handOver_62 ?_
        refine r_iadd hx hb dX6_handOver_63 ?_
        refine r_iconst hx hb dX6_handOver_64 ?_
        refine r_iadd hx hb dX6_handOver_65 ?_
        refine lv_iload_n hx hb dX6_handOver_66 rfl (lv_at hl 3 rfl) ?_
        refine r_ist C0 hW (show 10 < 11 ∧ 1 < bs 10 from ⟨by decide, by decide⟩) (fun A => rfl) (n := 941) (v := iI co) (by omega) (by omega) (by decide) dX6_handOver_67 (fun H1 locs1 hW => ?_)
        obtain ⟨w8, hw8⟩ : ∃ wq9 : gW, wq9 = up w7 10 (sA (w7 10) 1 ((41 + (3 * pl)) + 2) (iI co)) := ⟨_, rfl⟩
        rw [← hw8] at hW
        refine lv_iload_n hx hb dX6_handOver_68 rfl (lv_at hl 0 rfl) ?_
        exact r_iret C0 hW rz4 (by first | exact Or.inl (⟨(by first | assumption | omega | trivial), (by first | omega | assumption | (simp only [hp4])), (by simp (decide := true) only [hw8, hw7, hw6, hw1, up_up, up_s, gA_s, gA_sn, gN_sF, gA_sS, gN_sS, sA_st, sF_sF, sF_sS, sS_sS, arr_s, arr_n, arr_S, gA_aI, if_true, if_false, true_and, and_true, false_and, and_false, recS_1, gN_rec, iIt0, iIt1, hp4])⟩) | exact Or.inr (Or.inl (⟨(by first | assumption | omega | trivial), (by first | assumption | omega | trivial), (by first | assumption | omega | trivial), (by first | omega | assumption | (simp only [hp4])), (by simp (decide := true) only [hw8, hw7, hw6, hw1, up_up, up_s, gA_s, gA_sn, gN_sF, gA_sS, gN_sS, sA_st, sF_sF, sF_sS, sS_sS, arr_s, arr_n, arr_S, gA_aI, if_true, if_false, true_and, and_true, false_and, and_false, recS_1, gN_rec, iIt0, iIt1, hp4])⟩)) | exact Or.inr (Or.inr (⟨(by first | assumption | omega | trivial), (by first | assumption | omega | trivial), (by first | assumption | omega | trivial), (by first | omega | assumption | (simp only [hp4])), (by simp (decide := true) only [hw8, hw7, hw6, hw1, up_up, up_s, gA_s, gA_sn, gN_sF, gA_sS, gN_sS, sA_st, sF_sF, sF_sS, sS_sS, arr_s, arr_n, arr_S, gA_aI, if_true, if_false, true_and, and_true, false_and, and_false, recS_1, gN_rec, iIt0, iIt1, hp4])⟩))) dX6_handOver_69
      · refine r_bipush hx hb dX6_handOver_33 (by decide) ?_
        exact r_iret C0 hW ⟨by omega, by omega⟩ (by first | exact Or.inl (⟨(by first | assumption | omega | trivial), (by first | omega | assumption | (simp only [hp4])), (by simp (decide := true) only [hw1, up_up, up_s, gA_s, gA_sn, gN_sF, gA_sS, gN_sS, sA_st, sF_sF, sF_sS, sS_sS, arr_s, arr_n, arr_S, gA_aI, if_true, if_false, true_and, and_true, false_and, and_false, recS_1, gN_rec, iIt0, iIt1, hp4])⟩) | exact Or.inr (Or.inl (⟨(by first | assumption | omega | trivial), (by first | assumption | omega | trivial), (by first | assumption | omega | trivial), (by first | omega | assumption | (simp only [hp4])), (by simp (decide := true) only [hw1, up_up, up_s, gA_s, gA_sn, gN_sF, gA_sS, gN_sS, sA_st, sF_sF, sF_sS, sS_sS, arr_s, arr_n, arr_S, gA_aI, if_true, if_false, true_and, and_true, false_and, and_false, recS_1, gN_rec, iIt0, iIt1, hp4])⟩)) | exact Or.inr (Or.inr (⟨(by first | assumption | omega | trivial), (by first | assumption | omega | trivial), (by first | assumption | omega | trivial), (by first | omega | assumption | (simp only [hp4])), (by simp (decide := true) only [hw1, up_up, up_s, gA_s, gA_sn, gN_sF, gA_sS, gN_sS, sA_st, sF_sF, sF_sS, sS_sS, arr_s, arr_n, arr_S, gA_aI, if_true, if_false, true_and, and_true, false_and, and_false, recS_1, gN_rec, iIt0, iIt1, hp4])⟩))) dX6_handOver_35
    · subst e3
      refine r_if_ne (tgt := 21) hx hb ⟨by omega, by omega⟩ dX6_handOver_16 (by decide) (fun q => absurd q (by decide)) (fun _ => ?_)
      refine r_iconst hx hb dX6_handOver_19 ?_
      exact r_iret C0 hW ⟨by omega, by omega⟩ (by first | exact Or.inl (⟨(by first | assumption | omega | trivial), (by first | omega | assumption | (simp only [id])), (by simp (decide := true) only [hw1, up_up, up_s, gA_s, gA_sn, gN_sF, gA_sS, gN_sS, sA_st, sF_sF, sF_sS, sS_sS, arr_s, arr_n, arr_S, gA_aI, if_true, if_false, true_and, and_true, false_and, and_false, recS_1, gN_rec, iIt0, iIt1, id])⟩) | exact Or.inr (Or.inl (⟨(by first | assumption | omega | trivial), (by first | assumption | omega | trivial), (by first | assumption | omega | trivial), (by first | omega | assumption | (simp only [id])), (by simp (decide := true) only [hw1, up_up, up_s, gA_s, gA_sn, gN_sF, gA_sS, gN_sS, sA_st, sF_sF, sF_sS, sS_sS, arr_s, arr_n, arr_S, gA_aI, if_true, if_false, true_and, and_true, false_and, and_false, recS_1, gN_rec, iIt0, iIt1, id])⟩)) | exact Or.inr (Or.inr (⟨(by first | assumption | omega | trivial), (by first | assumption | omega | trivial), (by first | assumption | omega | trivial), (by first | omega | assumption | (simp only [id])), (by simp (decide := true) only [hw1, up_up, up_s, gA_s, gA_sn, gN_sF, gA_sS, gN_sS, sA_st, sF_sF, sF_sS, sS_sS, arr_s, arr_n, arr_S, gA_aI, if_true, if_false, true_and, and_true, false_and, and_false, recS_1, gN_rec, iIt0, iIt1, id])⟩))) dX6_handOver_20
  · subst e2
    refine r_if_eq (tgt := 19) hx hb ⟨by omega, by omega⟩ dX6_handOver_9 (by decide) (fun _ => ?_) (fun q => absurd q (by decide))
    refine r_iconst hx hb dX6_handOver_19 ?_
    exact r_iret C0 hW ⟨by omega, by omega⟩ (by first | exact Or.inl (⟨(by first | assumption | omega | trivial), (by first | omega | assumption | (simp only [id])), (by simp (decide := true) only [hw1, up_up, up_s, gA_s, gA_sn, gN_sF, gA_sS, gN_sS, sA_st, sF_sF, sF_sS, sS_sS, arr_s, arr_n, arr_S, gA_aI, if_true, if_false, true_and, and_true, false_and, and_false, recS_1, gN_rec, iIt0, iIt1, id])⟩) | exact Or.inr (Or.inl (⟨(by first | assumption | omega | trivial), (by first | assumption | omega | trivial), (by first | assumption | omega | trivial), (by first | omega | assumption | (simp only [id])), (by simp (decide := true) only [hw1, up_up, up_s, gA_s, gA_sn, gN_sF, gA_sS, gN_sS, sA_st, sF_sF, sF_sS, sS_sS, arr_s, arr_n, arr_S, gA_aI, if_true, if_false, true_and, and_true, false_and, and_false, recS_1, gN_rec, iIt0, iIt1, id])⟩)) | exact Or.inr (Or.inr (⟨(by first | assumption | omega | trivial), (by first | assumption | omega | trivial), (by first | assumption | omega | trivial), (by first | omega | assumption | (simp only [id])), (by simp (decide := true) only [hw1, up_up, up_s, gA_s, gA_sn, gN_sF, gA_sS, gN_sS, sA_st, sF_sF, sF_sS, sS_sS, arr_s, arr_n, arr_S, gA_aI, if_true, if_false, true_and, and_true, false_and, and_false, recS_1, gN_rec, iIt0, iIt1, id])⟩))) dX6_handOver_20

/-- X6_setDays: its end -/
def po_X6_setDays (w : gW) (co : Int) (dy : Int) : Int → gW → Prop := fun z w1 => ((¬ (0 ≤ co ∧ co ≤ 9)) ∧ (z = -1) ∧ (w1 = up w 10 (sS (w 10) 0 0 (iI 0)))) ∨ ((0 ≤ co ∧ co ≤ 9) ∧ (¬ (0 ≤ dy ∧ dy ≤ 20)) ∧ (z = -2) ∧ (w1 = up w 10 (sS (w 10) 0 0 (iI 0)))) ∨ ((0 ≤ co ∧ co ≤ 9) ∧ (0 ≤ dy ∧ dy ≤ 20) ∧ (aI ((w 10).1 1) (11 + 3 * co + 0) = dy) ∧ (z = -5) ∧ (w1 = up w 10 (sS (w 10) 0 0 (iI 0)))) ∨ ((0 ≤ co ∧ co ≤ 9) ∧ (0 ≤ dy ∧ dy ≤ 20) ∧ (¬ aI ((w 10).1 1) (11 + 3 * co + 0) = dy) ∧ (z = aI ((w 10).1 1) (11 + 3 * co + 0)) ∧ (w1 = up w 10 (sF (recS (sS (w 10) 0 0 (iI 0))) 1 (st ((w 10).1 1) (11 + 3 * co + 0) (iI (aI ((w 10).1 1) (11 + 3 * co + 0) + (dy - aI ((w 10).1 1) (11 + 3 * co + 0))))))))
theorem hdV_X6_setDays : yX6_setDays.cls = RX6 ∧ yX6_setDays.cls ≠ "java/lang/invoke/MethodHandle" ∧ yX6_setDays.cls ≠ "java/lang/invoke/VarHandle" ∧ (parseMethodDescriptor yX6_setDays.desc).map (fun d => d.parameters.length) = some 2 := by decide +kernel
set_option maxHeartbeats 4000000 in
set_option maxRecDepth 100000 in
theorem c_X6_setDays (l : Launch) (G : gG) (w : gW) (co : Int) (dy : Int) (rco : inR co) (rdy : inR dy) (hM : mO w) : mI l G yX6_setDays (wU yX6_setDays cX6_setDays 4 (some .int)) (rmL 2 42) [.ref (ad G 10 0), .int (iI co), .int (iI dy)] w (po_X6_setDays w co dy) := by
  refine mI_of (by decide +kernel) (Nat.le_of_ble_eq_true rfl) (fun p e s m args below meth c ls C0 hW hl => ?_)
  have hl : lv_has ls 4 [(0, .ref (ad G 10 0)), (1, .int (iI co)), (2, .int (iI dy))] := hl
  have hx := C0.hx
  have hb := C0.hb
  obtain ⟨hwA, hop, hds, hsm, hln, hdy, hsk⟩ := id hM
  obtain ⟨hv1, hv2, hv3, hv4⟩ := id hwA
  refine lv_aload_n hx hb dX6_setDays_0 rfl (lv_at hl 0 rfl) ?_
  refine r_iconst hx hb dX6_setDays_1 ?_
  refine r_pI C0 hW (show 10 < 11 ∧ 0 < bs 10 from ⟨by decide, by decide⟩) rfl rfl hiX6 tyX6 tyX6_ok nmX6 (k := 0) (v := iI 0) (by decide) kf_X6_28 rfl rfl rfl (tyX6_ok 0 (by decide)) rfl rfl (by simp) rfl dX6_setDays_2 (fun H1 locs1 hW => ?_)
  obtain ⟨w1, hw1⟩ : ∃ wq9 : gW, wq9 = up w 10 (sS (w 10) 0 0 (iI 0)) := ⟨_, rfl⟩
  rw [← hw1] at hW
  refine lv_iload_n hx hb dX6_setDays_5 rfl (lv_at hl 1 rfl) ?_
  refine k_Si (host := "") C0 hW (As := [.int (iI co)]) (c_X6_isCommoner l G w1 co rco) km_X6_74 ks_X6_isCommoner kn_X6 kc_X6_isCommoner rfl hdS_X6_isCommoner ⟨by decide, by decide⟩ rfl hl.1 rfl (Nat.le_of_ble_eq_true rfl) dX6_setDays_6 (fun z2 w2 H1 locs1 rz2 hp2 hW => ?_)
  obtain ⟨hp2, hq2⟩ := hp2
  subst hq2
  have rz2a := rz2.1
  have rz2b := rz2.2
  try simp (decide := true) only [hw1, up_s, gA_s, gA_sn, gN_sF, gA_sS, gN_sS, sA_st, sF_sF, sF_sS, sS_sS, arr_s, arr_n, arr_S, gA_aI, if_true, if_false, true_and, and_true, false_and, and_false, recS_1, gN_rec, iIt0, iIt1] at hp2
  rcases hp2 with ⟨e2, hp2⟩ | ⟨e2, hp2⟩
  · subst e2
    refine r_if_ne (tgt := 14) hx hb ⟨by omega, by omega⟩ dX6_setDays_9 (by decide) (fun _ => ?_) (fun q => absurd q (by decide))
    refine lv_iload_n hx hb dX6_setDays_14 rfl (lv_at hl 2 rfl) ?_
    refine r_iconst hx hb dX6_setDays_15 ?_
    refine r_bipush hx hb dX6_setDays_16 (by decide) ?_
    refine k_Si (host := "") C0 hW (As := [.int (iI dy), .int (iI 0), .int (iI 20)]) (c_X6_in l G w1 dy 0 20 rdy ⟨by omega, by omega⟩ ⟨by omega, by omega⟩) km_X6_32 ks_X6_in kn_X6 kc_X6_in rfl hdS_X6_in ⟨by decide, by decide⟩ rfl hl.1 rfl (Nat.le_of_ble_eq_true rfl) dX6_setDays_18 (fun z3 w3 H1 locs1 rz3 hp3 hW => ?_)
    obtain ⟨hp3, hq3⟩ := hp3
    subst hq3
    have rz3a := rz3.1
    have rz3b := rz3.2
    try simp (decide := true) only [hw1, up_s, gA_s, gA_sn, gN_sF, gA_sS, gN_sS, sA_st, sF_sF, sF_sS, sS_sS, arr_s, arr_n, arr_S, gA_aI, if_true, if_false, true_and, and_true, false_and, and_false, recS_1, gN_rec, iIt0, iIt1] at hp3
    rcases hp3 with ⟨e3, hp3⟩ | ⟨e3, hp3⟩
    · subst e3
      refine r_if_ne (tgt := 27) hx hb ⟨by omega, by omega⟩ dX6_setDays_21 (by decide) (fun _ => ?_) (fun q => absurd q (by decide))
      refine lv_aload_n hx hb dX6_setDays_27 rfl (lv_at hl 0 rfl) ?_
      refine lv_iload_n hx hb dX6_setDays_28 rfl (lv_at hl 1 rfl) ?_
      refine r_iconst hx hb dX6_setDays_29 ?_
      refine k_Vi (j := 10) (k0 := 0) C0 hW (c_X6_ofCommoner l G w1 co 0 rco ⟨by omega, by omega⟩ (by omega)) km_X6_83 ki_X6_ofCommoner ke_X6_ofCommoner kn_X6 kc_X6_ofCommoner rfl hdV_X6_ofCommoner ⟨by decide, by decide⟩ (show 10 < 11 ∧ 0 < bs 10 from ⟨by decide, by decide⟩) rfl rfl rfl hl.1 rfl (Nat.le_of_ble_eq_true rfl) dX6_setDays_30 (fun z4 w4 H1 locs1 rz4 hp4 hW => ?_)
      obtain ⟨hp4, hq4⟩ := hp4
      subst hq4
      have rz4a := rz4.1
      have rz4b := rz4.2
      try simp (decide := true) only [hw1, up_s, gA_s, gA_sn, gN_sF, gA_sS, gN_sS, sA_st, sF_sF, sF_sS, sS_sS, arr_s, arr_n, arr_S, gA_aI, if_true, if_false, true_and, and_true, false_and, and_false, recS_1, gN_rec, iIt0, iIt1] at hp4
      have hdx := hdy co (by omega) (by omega)
      refine lv_istore_n (lv' := [(3, .int (iI z4)), (0, .ref (ad G 10 0)), (1, .int (iI co)), (2, .int (iI dy))]) hx hb dX6_setDays_33 rfl hl (by decide) rfl (fun ls hl => ?_)
      refine lv_iload_n hx hb dX6_setDays_34 rfl (lv_at hl 0 rfl) ?_
      refine lv_iload_n hx hb dX6_setDays_35 rfl (lv_at hl 3 rfl) ?_
      refine r_icmp_ne (tgt := 42) hx hb rz4 rdy dX6_setDays_36 (by decide) (fun c5 => ?_) (fun c5 => ?_)
      · refine lv_aload_n hx hb dX6_setDays_42 rfl (lv_at hl 1 rfl) ?_
        refine k_Vv (j := 10) (k0 := 0) C0 hW (c_X6_records l G w1 (by first | omega | (simp (decide := true) only [hw1, up_s, gA_s, gA_sn, gN_sF, gA_sS, gN_sS, sA_st, sF_sF, sF_sS, sS_sS, arr_s, arr_n, arr_S, gA_aI, if_true, if_false, true_and, and_true, false_and, and_false, recS_1, gN_rec, iIt0, iIt1] <;> omega))) km_X6_80 ki_X6_records ke_X6_records kn_X6 kc_X6_records rfl hdV_X6_records ⟨by decide, by decide⟩ (show 10 < 11 ∧ 0 < bs 10 from ⟨by decide, by decide⟩) rfl rfl rfl hl.1 rfl (Nat.le_of_ble_eq_true rfl) dX6_setDays_43 (fun w6 H1 locs1 hp6 hW => ?_)
        have hw6 : w6 = _ := hp6
        refine lv_aload_n hx hb dX6_setDays_46 rfl (lv_at hl 1 rfl) ?_
        refine lv_iload_n hx hb dX6_setDays_47 rfl (lv_at hl 2 rfl) ?_
        refine r_iconst hx hb dX6_setDays_48 ?_
        refine lv_iload_n hx hb dX6_setDays_49 rfl (lv_at hl 3 rfl) ?_
        refine lv_iload_n hx hb dX6_setDays_50 rfl (lv_at hl 0 rfl) ?_
        refine r_isub hx hb dX6_setDays_51 ?_
        refine k_Vv (j := 10) (k0 := 0) C0 hW (c_X6_addCommoner l G w6 co 0 (dy - z4) rco ⟨by omega, by omega⟩ ⟨by omega, by omega⟩ (by omega)) km_X6_57 ki_X6_addCommoner ke_X6_addCommoner kn_X6 kc_X6_addCommoner rfl hdV_X6_addCommoner ⟨by decide, by decide⟩ (show 10 < 11 ∧ 0 < bs 10 from ⟨by decide, by decide⟩) rfl rfl rfl hl.1 rfl (Nat.le_of_ble_eq_true rfl) dX6_setDays_52 (fun w7 H1 locs1 hp7 hW => ?_)
        have hw7 : w7 = _ := hp7
        refine lv_iload_n hx hb dX6_setDays_55 rfl (lv_at hl 0 rfl) ?_
        exact r_iret C0 hW rz4 (by first | exact Or.inl (⟨(by first | assumption | omega | trivial), (by first | omega | assumption | (simp only [hp4])), (by simp (decide := true) only [hw7, hw6, hw1, up_up, up_s, gA_s, gA_sn, gN_sF, gA_sS, gN_sS, sA_st, sF_sF, sF_sS, sS_sS, arr_s, arr_n, arr_S, gA_aI, if_true, if_false, true_and, and_true, false_and, and_false, recS_1, gN_rec, iIt0, iIt1, hp4])⟩) | exact Or.inr (Or.inl (⟨(by first | assumption | omega | trivial), (by first | assumption | omega | trivial), (by first | omega | assumption | (simp only [hp4])), (by simp (decide := true) only [hw7, hw6, hw1, up_up, up_s, gA_s, gA_sn, gN_sF, gA_sS, gN_sS, sA_st, sF_sF, sF_sS, sS_sS, arr_s, arr_n, arr_S, gA_aI, if_true, if_false, true_and, and_true, false_and, and_false, recS_1, gN_rec, iIt0, iIt1, hp4])⟩)) | exact Or.inr (Or.inr (Or.inl (⟨(by first | assumption | omega | trivial), (by first | assumption | omega | trivial), (by first | assumption | omega | trivial), (by first | omega | assumption | (simp only [hp4])), (by simp (decide := true) only [hw7, hw6, hw1, up_up, up_s, gA_s, gA_sn, gN_sF, gA_sS, gN_sS, sA_st, sF_sF, sF_sS, sS_sS, arr_s, arr_n, arr_S, gA_aI, if_true, if_false, true_and, and_true, false_and, and_false, recS_1, gN_rec, iIt0, iIt1, hp4])⟩))) | exact Or.inr (Or.inr (Or.inr (⟨(by first | assumption | omega | trivial), (by first | assumption | omega | trivial), (by first | assumption | omega | trivial), (by first | omega | assumption | (simp only [hp4])), (by simp (decide := true) only [hw7, hw6, hw1, up_up, up_s, gA_s, gA_sn, gN_sF, gA_sS, gN_sS, sA_st, sF_sF, sF_sS, sS_sS, arr_s, arr_n, arr_S, gA_aI, if_true, if_false, true_and, and_true, false_and, and_false, recS_1, gN_rec, iIt0, iIt1, hp4])⟩)))) dX6_setDays_56
      · refine r_bipush hx hb dX6_setDays_39 (by decide) ?_
        exact r_iret C0 hW ⟨by omega, by omega⟩ (by first | exact Or.inl (⟨(by first | assumption | omega | trivial), (by first | omega | assumption | (simp only [hp4])), (by simp (decide := true) only [hw1, up_up, up_s, gA_s, gA_sn, gN_sF, gA_sS, gN_sS, sA_st, sF_sF, sF_sS, sS_sS, arr_s, arr_n, arr_S, gA_aI, if_true, if_false, true_and, and_true, false_and, and_false, recS_1, gN_rec, iIt0, iIt1, hp4])⟩) | exact Or.inr (Or.inl (⟨(by first | assumption | omega | trivial), (by first | assumption | omega | trivial), (by first | omega | assumption | (simp only [hp4])), (by simp (decide := true) only [hw1, up_up, up_s, gA_s, gA_sn, gN_sF, gA_sS, gN_sS, sA_st, sF_sF, sF_sS, sS_sS, arr_s, arr_n, arr_S, gA_aI, if_true, if_false, true_and, and_true, false_and, and_false, recS_1, gN_rec, iIt0, iIt1, hp4])⟩)) | exact Or.inr (Or.inr (Or.inl (⟨(by first | assumption | omega | trivial), (by first | assumption | omega | trivial), (by first | assumption | omega | trivial), (by first | omega | assumption | (simp only [hp4])), (by simp (decide := true) only [hw1, up_up, up_s, gA_s, gA_sn, gN_sF, gA_sS, gN_sS, sA_st, sF_sF, sF_sS, sS_sS, arr_s, arr_n, arr_S, gA_aI, if_true, if_false, true_and, and_true, false_and, and_false, recS_1, gN_rec, iIt0, iIt1, hp4])⟩))) | exact Or.inr (Or.inr (Or.inr (⟨(by first | assumption | omega | trivial), (by first | assumption | omega | trivial), (by first | assumption | omega | trivial), (by first | omega | assumption | (simp only [hp4])), (by simp (decide := true) only [hw1, up_up, up_s, gA_s, gA_sn, gN_sF, gA_sS, gN_sS, sA_st, sF_sF, sF_sS, sS_sS, arr_s, arr_n, arr_S, gA_aI, if_true, if_false, true_and, and_true, false_and, and_false, recS_1, gN_rec, iIt0, iIt1, hp4])⟩)))) dX6_setDays_41
    · subst e3
      refine r_if_ne (tgt := 27) hx hb ⟨by omega, by omega⟩ dX6_setDays_21 (by decide) (fun q => absurd q (by decide)) (fun _ => ?_)
      refine r_bipush hx hb dX6_setDays_24 (by decide) ?_
      exact r_iret C0 hW ⟨by omega, by omega⟩ (by first | exact Or.inl (⟨(by first | assumption | omega | trivial), (by first | omega | assumption | (simp only [id])), (by simp (decide := true) only [hw1, up_up, up_s, gA_s, gA_sn, gN_sF, gA_sS, gN_sS, sA_st, sF_sF, sF_sS, sS_sS, arr_s, arr_n, arr_S, gA_aI, if_true, if_false, true_and, and_true, false_and, and_false, recS_1, gN_rec, iIt0, iIt1, id])⟩) | exact Or.inr (Or.inl (⟨(by first | assumption | omega | trivial), (by first | assumption | omega | trivial), (by first | omega | assumption | (simp only [id])), (by simp (decide := true) only [hw1, up_up, up_s, gA_s, gA_sn, gN_sF, gA_sS, gN_sS, sA_st, sF_sF, sF_sS, sS_sS, arr_s, arr_n, arr_S, gA_aI, if_true, if_false, true_and, and_true, false_and, and_false, recS_1, gN_rec, iIt0, iIt1, id])⟩)) | exact Or.inr (Or.inr (Or.inl (⟨(by first | assumption | omega | trivial), (by first | assumption | omega | trivial), (by first | assumption | omega | trivial), (by first | omega | assumption | (simp only [id])), (by simp (decide := true) only [hw1, up_up, up_s, gA_s, gA_sn, gN_sF, gA_sS, gN_sS, sA_st, sF_sF, sF_sS, sS_sS, arr_s, arr_n, arr_S, gA_aI, if_true, if_false, true_and, and_true, false_and, and_false, recS_1, gN_rec, iIt0, iIt1, id])⟩))) | exact Or.inr (Or.inr (Or.inr (⟨(by first | assumption | omega | trivial), (by first | assumption | omega | trivial), (by first | assumption | omega | trivial), (by first | omega | assumption | (simp only [id])), (by simp (decide := true) only [hw1, up_up, up_s, gA_s, gA_sn, gN_sF, gA_sS, gN_sS, sA_st, sF_sF, sF_sS, sS_sS, arr_s, arr_n, arr_S, gA_aI, if_true, if_false, true_and, and_true, false_and, and_false, recS_1, gN_rec, iIt0, iIt1, id])⟩)))) dX6_setDays_26
  · subst e2
    refine r_if_ne (tgt := 14) hx hb ⟨by omega, by omega⟩ dX6_setDays_9 (by decide) (fun q => absurd q (by decide)) (fun _ => ?_)
    refine r_iconst hx hb dX6_setDays_12 ?_
    exact r_iret C0 hW ⟨by omega, by omega⟩ (by first | exact Or.inl (⟨(by first | assumption | omega | trivial), (by first | omega | assumption | (simp only [id])), (by simp (decide := true) only [hw1, up_up, up_s, gA_s, gA_sn, gN_sF, gA_sS, gN_sS, sA_st, sF_sF, sF_sS, sS_sS, arr_s, arr_n, arr_S, gA_aI, if_true, if_false, true_and, and_true, false_and, and_false, recS_1, gN_rec, iIt0, iIt1, id])⟩) | exact Or.inr (Or.inl (⟨(by first | assumption | omega | trivial), (by first | assumption | omega | trivial), (by first | omega | assumption | (simp only [id])), (by simp (decide := true) only [hw1, up_up, up_s, gA_s, gA_sn, gN_sF, gA_sS, gN_sS, sA_st, sF_sF, sF_sS, sS_sS, arr_s, arr_n, arr_S, gA_aI, if_true, if_false, true_and, and_true, false_and, and_false, recS_1, gN_rec, iIt0, iIt1, id])⟩)) | exact Or.inr (Or.inr (Or.inl (⟨(by first | assumption | omega | trivial), (by first | assumption | omega | trivial), (by first | assumption | omega | trivial), (by first | omega | assumption | (simp only [id])), (by simp (decide := true) only [hw1, up_up, up_s, gA_s, gA_sn, gN_sF, gA_sS, gN_sS, sA_st, sF_sF, sF_sS, sS_sS, arr_s, arr_n, arr_S, gA_aI, if_true, if_false, true_and, and_true, false_and, and_false, recS_1, gN_rec, iIt0, iIt1, id])⟩))) | exact Or.inr (Or.inr (Or.inr (⟨(by first | assumption | omega | trivial), (by first | assumption | omega | trivial), (by first | assumption | omega | trivial), (by first | omega | assumption | (simp only [id])), (by simp (decide := true) only [hw1, up_up, up_s, gA_s, gA_sn, gN_sF, gA_sS, gN_sS, sA_st, sF_sF, sF_sS, sS_sS, arr_s, arr_n, arr_S, gA_aI, if_true, if_false, true_and, and_true, false_and, and_false, recS_1, gN_rec, iIt0, iIt1, id])⟩)))) dX6_setDays_13

/-- X6_set: its end -/
def po_X6_set (w : gW) (q : Int) (x : Int) : Int → gW → Prop := fun z w1 => ((¬ ((q = 0 ∧ 1 ≤ x ∧ x ≤ 6) ∨ (q = 1 ∧ 0 ≤ x ∧ x ≤ 1))) ∧ (z = -2) ∧ (w1 = up w 10 (sS (w 10) 0 0 (iI 0)))) ∨ (((q = 0 ∧ 1 ≤ x ∧ x ≤ 6) ∨ (q = 1 ∧ 0 ≤ x ∧ x ≤ 1)) ∧ (aI ((w 10).1 1) (q) = x) ∧ (z = -5) ∧ (w1 = up w 10 (sS (w 10) 0 0 (iI 0)))) ∨ (((q = 0 ∧ 1 ≤ x ∧ x ≤ 6) ∨ (q = 1 ∧ 0 ≤ x ∧ x ≤ 1)) ∧ (¬ aI ((w 10).1 1) (q) = x) ∧ (z = aI ((w 10).1 1) (q)) ∧ (w1 = up w 10 (sF (recS (sS (w 10) 0 0 (iI 0))) 1 (st ((w 10).1 1) q (iI x)))))
theorem hdV_X6_set : yX6_set.cls = RX6 ∧ yX6_set.cls ≠ "java/lang/invoke/MethodHandle" ∧ yX6_set.cls ≠ "java/lang/invoke/VarHandle" ∧ (parseMethodDescriptor yX6_set.desc).map (fun d => d.parameters.length) = some 2 := by decide +kernel
set_option maxHeartbeats 4000000 in
set_option maxRecDepth 100000 in
theorem c_X6_set (l : Launch) (G : gG) (w : gW) (q : Int) (x : Int) (rq : inR q) (rx : inR x) (hM : mO w) : mI l G yX6_set (wU yX6_set cX6_set 5 (some .int)) (rmL 1 22) [.ref (ad G 10 0), .int (iI q), .int (iI x)] w (po_X6_set w q x) := by
  refine mI_of (by decide +kernel) (Nat.le_of_ble_eq_true rfl) (fun p e s m args below meth c ls C0 hW hl => ?_)
  have hl : lv_has ls 5 [(0, .ref (ad G 10 0)), (1, .int (iI q)), (2, .int (iI x))] := hl
  have hx := C0.hx
  have hb := C0.hb
  obtain ⟨hwA, hop, hds, hsm, hln, hdy, hsk⟩ := id hM
  obtain ⟨hv1, hv2, hv3, hv4⟩ := id hwA
  refine lv_aload_n hx hb dX6_set_0 rfl (lv_at hl 0 rfl) ?_
  refine r_iconst hx hb dX6_set_1 ?_
  refine r_pI C0 hW (show 10 < 11 ∧ 0 < bs 10 from ⟨by decide, by decide⟩) rfl rfl hiX6 tyX6 tyX6_ok nmX6 (k := 0) (v := iI 0) (by decide) kf_X6_28 rfl rfl rfl (tyX6_ok 0 (by decide)) rfl rfl (by simp) rfl dX6_set_2 (fun H1 locs1 hW => ?_)
  obtain ⟨w1, hw1⟩ : ∃ wq9 : gW, wq9 = up w 10 (sS (w 10) 0 0 (iI 0)) := ⟨_, rfl⟩
  rw [← hw1] at hW
  refine lv_iload_n hx hb dX6_set_5 rfl (lv_at hl 1 rfl) ?_
  refine r_if_ne (tgt := 19) hx hb rq dX6_set_6 (by decide) (fun c2 => ?_) (fun c2 => ?_)
  · refine lv_iload_n hx hb dX6_set_19 rfl (lv_at hl 1 rfl) ?_
    refine r_iconst hx hb dX6_set_20 ?_
    refine r_icmp_ne (tgt := 37) hx hb rq ⟨by omega, by omega⟩ dX6_set_21 (by decide) (fun c3 => ?_) (fun c3 => ?_)
    · refine r_iconst hx hb dX6_set_37 ?_
      refine lv_istore_n (lv' := [(3, .int (iI 0)), (0, .ref (ad G 10 0)), (1, .int (iI q)), (2, .int (iI x))]) hx hb dX6_set_38 rfl hl (by decide) rfl (fun ls hl => ?_)
      refine lv_iload_n hx hb dX6_set_39 rfl (lv_at hl 0 rfl) ?_
      refine r_if_ne (tgt := 46) hx hb ⟨by omega, by omega⟩ dX6_set_40 (by decide) (fun q => absurd q (by decide)) (fun _ => ?_)
      refine r_bipush hx hb dX6_set_43 (by decide) ?_
      exact r_iret C0 hW ⟨by omega, by omega⟩ (by first | exact Or.inl (⟨(by first | assumption | omega | trivial), (by first | omega | assumption | (simp only [id])), (by simp (decide := true) only [hw1, up_up, up_s, gA_s, gA_sn, gN_sF, gA_sS, gN_sS, sA_st, sF_sF, sF_sS, sS_sS, arr_s, arr_n, arr_S, gA_aI, if_true, if_false, true_and, and_true, false_and, and_false, recS_1, gN_rec, iIt0, iIt1, id])⟩) | exact Or.inr (Or.inl (⟨(by first | assumption | omega | trivial), (by first | assumption | omega | trivial), (by first | omega | assumption | (simp only [id])), (by simp (decide := true) only [hw1, up_up, up_s, gA_s, gA_sn, gN_sF, gA_sS, gN_sS, sA_st, sF_sF, sF_sS, sS_sS, arr_s, arr_n, arr_S, gA_aI, if_true, if_false, true_and, and_true, false_and, and_false, recS_1, gN_rec, iIt0, iIt1, id])⟩)) | exact Or.inr (Or.inr (⟨(by first | assumption | omega | trivial), (by first | assumption | omega | trivial), (by first | omega | assumption | (simp only [id])), (by simp (decide := true) only [hw1, up_up, up_s, gA_s, gA_sn, gN_sF, gA_sS, gN_sS, sA_st, sF_sF, sF_sS, sS_sS, arr_s, arr_n, arr_S, gA_aI, if_true, if_false, true_and, and_true, false_and, and_false, recS_1, gN_rec, iIt0, iIt1, id])⟩))) dX6_set_45
    · refine lv_iload_n hx hb dX6_set_24 rfl (lv_at hl 2 rfl) ?_
      refine r_iconst hx hb dX6_set_25 ?_
      refine r_iconst hx hb dX6_set_26 ?_
      refine k_Si (host := "") C0 hW (As := [.int (iI x), .int (iI 0), .int (iI 1)]) (c_X6_in l G w1 x 0 1 rx ⟨by omega, by omega⟩ ⟨by omega, by omega⟩) km_X6_32 ks_X6_in kn_X6 kc_X6_in rfl hdS_X6_in ⟨by decide, by decide⟩ rfl hl.1 rfl (Nat.le_of_ble_eq_true rfl) dX6_set_27 (fun z4 w4 H1 locs1 rz4 hp4 hW => ?_)
      obtain ⟨hp4, hq4⟩ := hp4
      subst hq4
      have rz4a := rz4.1
      have rz4b := rz4.2
      try simp (decide := true) only [hw1, up_s, gA_s, gA_sn, gN_sF, gA_sS, gN_sS, sA_st, sF_sF, sF_sS, sS_sS, arr_s, arr_n, arr_S, gA_aI, if_true, if_false, true_and, and_true, false_and, and_false, recS_1, gN_rec, iIt0, iIt1] at hp4
      rcases hp4 with ⟨e4, hp4⟩ | ⟨e4, hp4⟩
      · subst e4
        refine r_if_eq (tgt := 37) hx hb ⟨by omega, by omega⟩ dX6_set_30 (by decide) (fun q => absurd q (by decide)) (fun _ => ?_)
        refine r_iconst hx hb dX6_set_33 ?_
        refine lv_goto (tgt := 38) hx hb dX6_set_34 (by decide) ?_
        refine lv_istore_n (lv' := [(3, .int (iI 1)), (0, .ref (ad G 10 0)), (1, .int (iI q)), (2, .int (iI x))]) hx hb dX6_set_38 rfl hl (by decide) rfl (fun ls hl => ?_)
        refine lv_iload_n hx hb dX6_set_39 rfl (lv_at hl 0 rfl) ?_
        refine r_if_ne (tgt := 46) hx hb ⟨by omega, by omega⟩ dX6_set_40 (by decide) (fun _ => ?_) (fun q => absurd q (by decide))
        refine lv_aload_n hx hb dX6_set_46 rfl (lv_at hl 1 rfl) ?_
        refine r_gR C0 hW (show 10 < 11 ∧ 0 < bs 10 from ⟨by decide, by decide⟩) rfl rfl hiX6 (k := 1) (by decide) kf_X6_7 rfl rfl rfl dX6_set_47 ?_
        refine lv_iload_n hx hb dX6_set_50 rfl (lv_at hl 2 rfl) ?_
        refine r_ild C0 hW (show 10 < 11 ∧ 1 < bs 10 from ⟨by decide, by decide⟩) rfl (n := 941) (by omega) (by omega) (by omega) dX6_set_51 (fun z5 (hz5 : z5 = gA (w1 10) 1 q) rz5 => ?_)
        have rz5a := rz5.1
        have rz5b := rz5.2
        try simp (decide := true) only [hw1, up_s, gA_s, gA_sn, gN_sF, gA_sS, gN_sS, sA_st, sF_sF, sF_sS, sS_sS, arr_s, arr_n, arr_S, gA_aI, if_true, if_false, true_and, and_true, false_and, and_false, recS_1, gN_rec, iIt0, iIt1] at hz5
        refine lv_istore (lv' := [(4, .int (iI z5)), (3, .int (iI 1)), (0, .ref (ad G 10 0)), (1, .int (iI q)), (2, .int (iI x))]) hx hb dX6_set_52 hl (by decide) rfl (fun ls hl => ?_)
        refine lv_iload hx hb dX6_set_54 (lv_at hl 0 rfl) ?_
        refine lv_iload_n hx hb dX6_set_56 rfl (lv_at hl 4 rfl) ?_
        refine r_icmp_ne (tgt := 63) hx hb rz5 rx dX6_set_57 (by decide) (fun c6 => ?_) (fun c6 => ?_)
        · refine lv_aload_n hx hb dX6_set_63 rfl (lv_at hl 2 rfl) ?_
          refine k_Vv (j := 10) (k0 := 0) C0 hW (c_X6_records l G w1 (by first | omega | (simp (decide := true) only [hw1, up_s, gA_s, gA_sn, gN_sF, gA_sS, gN_sS, sA_st, sF_sF, sF_sS, sS_sS, arr_s, arr_n, arr_S, gA_aI, if_true, if_false, true_and, and_true, false_and, and_false, recS_1, gN_rec, iIt0, iIt1] <;> omega))) km_X6_80 ki_X6_records ke_X6_records kn_X6 kc_X6_records rfl hdV_X6_records ⟨by decide, by decide⟩ (show 10 < 11 ∧ 0 < bs 10 from ⟨by decide, by decide⟩) rfl rfl rfl hl.1 rfl (Nat.le_of_ble_eq_true rfl) dX6_set_64 (fun w7 H1 locs1 hp7 hW => ?_)
          have hw7 : w7 = _ := hp7
          refine lv_aload_n hx hb dX6_set_67 rfl (lv_at hl 2 rfl) ?_
          refine r_gR C0 hW (show 10 < 11 ∧ 0 < bs 10 from ⟨by decide, by decide⟩) rfl rfl hiX6 (k := 1) (by decide) kf_X6_7 rfl rfl rfl dX6_set_68 ?_
          refine lv_iload_n hx hb dX6_set_71 rfl (lv_at hl 3 rfl) ?_
          refine lv_iload_n hx hb dX6_set_72 rfl (lv_at hl 4 rfl) ?_
          refine r_ist C0 hW (show 10 < 11 ∧ 1 < bs 10 from ⟨by decide, by decide⟩) (fun A => rfl) (n := 941) (v := iI x) (by omega) (by omega) (by decide) dX6_set_73 (fun H1 locs1 hW => ?_)
          obtain ⟨w8, hw8⟩ : ∃ wq9 : gW, wq9 = up w7 10 (sA (w7 10) 1 q (iI x)) := ⟨_, rfl⟩
          rw [← hw8] at hW
          refine lv_iload hx hb dX6_set_74 (lv_at hl 0 rfl) ?_
          exact r_iret C0 hW rz5 (by first | exact Or.inl (⟨(by first | assumption | omega | trivial), (by first | omega | assumption | (simp only [hz5])), (by simp (decide := true) only [hw8, hw7, hw1, up_up, up_s, gA_s, gA_sn, gN_sF, gA_sS, gN_sS, sA_st, sF_sF, sF_sS, sS_sS, arr_s, arr_n, arr_S, gA_aI, if_true, if_false, true_and, and_true, false_and, and_false, recS_1, gN_rec, iIt0, iIt1, hz5])⟩) | exact Or.inr (Or.inl (⟨(by first | assumption | omega | trivial), (by first | assumption | omega | trivial), (by first | omega | assumption | (simp only [hz5])), (by simp (decide := true) only [hw8, hw7, hw1, up_up, up_s, gA_s, gA_sn, gN_sF, gA_sS, gN_sS, sA_st, sF_sF, sF_sS, sS_sS, arr_s, arr_n, arr_S, gA_aI, if_true, if_false, true_and, and_true, false_and, and_false, recS_1, gN_rec, iIt0, iIt1, hz5])⟩)) | exact Or.inr (Or.inr (⟨(by first | assumption | omega | trivial), (by first | assumption | omega | trivial), (by first | omega | assumption | (simp only [hz5])), (by simp (decide := true) only [hw8, hw7, hw1, up_up, up_s, gA_s, gA_sn, gN_sF, gA_sS, gN_sS, sA_st, sF_sF, sF_sS, sS_sS, arr_s, arr_n, arr_S, gA_aI, if_true, if_false, true_and, and_true, false_and, and_false, recS_1, gN_rec, iIt0, iIt1, hz5])⟩))) dX6_set_76
        · refine r_bipush hx hb dX6_set_60 (by decide) ?_
          exact r_iret C0 hW ⟨by omega, by omega⟩ (by first | exact Or.inl (⟨(by first | assumption | omega | trivial), (by first | omega | assumption | (simp only [hz5])), (by simp (decide := true) only [hw1, up_up, up_s, gA_s, gA_sn, gN_sF, gA_sS, gN_sS, sA_st, sF_sF, sF_sS, sS_sS, arr_s, arr_n, arr_S, gA_aI, if_true, if_false, true_and, and_true, false_and, and_false, recS_1, gN_rec, iIt0, iIt1, hz5])⟩) | exact Or.inr (Or.inl (⟨(by first | assumption | omega | trivial), (by first | assumption | omega | trivial), (by first | omega | assumption | (simp only [hz5])), (by simp (decide := true) only [hw1, up_up, up_s, gA_s, gA_sn, gN_sF, gA_sS, gN_sS, sA_st, sF_sF, sF_sS, sS_sS, arr_s, arr_n, arr_S, gA_aI, if_true, if_false, true_and, and_true, false_and, and_false, recS_1, gN_rec, iIt0, iIt1, hz5])⟩)) | exact Or.inr (Or.inr (⟨(by first | assumption | omega | trivial), (by first | assumption | omega | trivial), (by first | omega | assumption | (simp only [hz5])), (by simp (decide := true) only [hw1, up_up, up_s, gA_s, gA_sn, gN_sF, gA_sS, gN_sS, sA_st, sF_sF, sF_sS, sS_sS, arr_s, arr_n, arr_S, gA_aI, if_true, if_false, true_and, and_true, false_and, and_false, recS_1, gN_rec, iIt0, iIt1, hz5])⟩))) dX6_set_62
      · subst e4
        refine r_if_eq (tgt := 37) hx hb ⟨by omega, by omega⟩ dX6_set_30 (by decide) (fun _ => ?_) (fun q => absurd q (by decide))
        refine r_iconst hx hb dX6_set_37 ?_
        refine lv_istore_n (lv' := [(3, .int (iI 0)), (0, .ref (ad G 10 0)), (1, .int (iI q)), (2, .int (iI x))]) hx hb dX6_set_38 rfl hl (by decide) rfl (fun ls hl => ?_)
        refine lv_iload_n hx hb dX6_set_39 rfl (lv_at hl 0 rfl) ?_
        refine r_if_ne (tgt := 46) hx hb ⟨by omega, by omega⟩ dX6_set_40 (by decide) (fun q => absurd q (by decide)) (fun _ => ?_)
        refine r_bipush hx hb dX6_set_43 (by decide) ?_
        exact r_iret C0 hW ⟨by omega, by omega⟩ (by first | exact Or.inl (⟨(by first | assumption | omega | trivial), (by first | omega | assumption | (simp only [id])), (by simp (decide := true) only [hw1, up_up, up_s, gA_s, gA_sn, gN_sF, gA_sS, gN_sS, sA_st, sF_sF, sF_sS, sS_sS, arr_s, arr_n, arr_S, gA_aI, if_true, if_false, true_and, and_true, false_and, and_false, recS_1, gN_rec, iIt0, iIt1, id])⟩) | exact Or.inr (Or.inl (⟨(by first | assumption | omega | trivial), (by first | assumption | omega | trivial), (by first | omega | assumption | (simp only [id])), (by simp (decide := true) only [hw1, up_up, up_s, gA_s, gA_sn, gN_sF, gA_sS, gN_sS, sA_st, sF_sF, sF_sS, sS_sS, arr_s, arr_n, arr_S, gA_aI, if_true, if_false, true_and, and_true, false_and, and_false, recS_1, gN_rec, iIt0, iIt1, id])⟩)) | exact Or.inr (Or.inr (⟨(by first | assumption | omega | trivial), (by first | assumption | omega | trivial), (by first | omega | assumption | (simp only [id])), (by simp (decide := true) only [hw1, up_up, up_s, gA_s, gA_sn, gN_sF, gA_sS, gN_sS, sA_st, sF_sF, sF_sS, sS_sS, arr_s, arr_n, arr_S, gA_aI, if_true, if_false, true_and, and_true, false_and, and_false, recS_1, gN_rec, iIt0, iIt1, id])⟩))) dX6_set_45
  · refine lv_iload_n hx hb dX6_set_9 rfl (lv_at hl 2 rfl) ?_
    refine r_iconst hx hb dX6_set_10 ?_
    refine r_bipush hx hb dX6_set_11 (by decide) ?_
    refine k_Si (host := "") C0 hW (As := [.int (iI x), .int (iI 1), .int (iI 6)]) (c_X6_in l G w1 x 1 6 rx ⟨by omega, by omega⟩ ⟨by omega, by omega⟩) km_X6_32 ks_X6_in kn_X6 kc_X6_in rfl hdS_X6_in ⟨by decide, by decide⟩ rfl hl.1 rfl (Nat.le_of_ble_eq_true rfl) dX6_set_13 (fun z9 w9 H1 locs1 rz9 hp9 hW => ?_)
    obtain ⟨hp9, hq9⟩ := hp9
    subst hq9
    have rz9a := rz9.1
    have rz9b := rz9.2
    try simp (decide := true) only [hw1, up_s, gA_s, gA_sn, gN_sF, gA_sS, gN_sS, sA_st, sF_sF, sF_sS, sS_sS, arr_s, arr_n, arr_S, gA_aI, if_true, if_false, true_and, and_true, false_and, and_false, recS_1, gN_rec, iIt0, iIt1] at hp9
    rcases hp9 with ⟨e9, hp9⟩ | ⟨e9, hp9⟩
    · subst e9
      refine lv_goto (tgt := 38) hx hb dX6_set_16 (by decide) ?_
      refine lv_istore_n (lv' := [(3, .int (iI 1)), (0, .ref (ad G 10 0)), (1, .int (iI q)), (2, .int (iI x))]) hx hb dX6_set_38 rfl hl (by decide) rfl (fun ls hl => ?_)
      refine lv_iload_n hx hb dX6_set_39 rfl (lv_at hl 0 rfl) ?_
      refine r_if_ne (tgt := 46) hx hb ⟨by omega, by omega⟩ dX6_set_40 (by decide) (fun _ => ?_) (fun q => absurd q (by decide))
      refine lv_aload_n hx hb dX6_set_46 rfl (lv_at hl 1 rfl) ?_
      refine r_gR C0 hW (show 10 < 11 ∧ 0 < bs 10 from ⟨by decide, by decide⟩) rfl rfl hiX6 (k := 1) (by decide) kf_X6_7 rfl rfl rfl dX6_set_47 ?_
      refine lv_iload_n hx hb dX6_set_50 rfl (lv_at hl 2 rfl) ?_
      refine r_ild C0 hW (show 10 < 11 ∧ 1 < bs 10 from ⟨by decide, by decide⟩) rfl (n := 941) (by omega) (by omega) (by omega) dX6_set_51 (fun z10 (hz10 : z10 = gA (w1 10) 1 q) rz10 => ?_)
      have rz10a := rz10.1
      have rz10b := rz10.2
      try simp (decide := true) only [hw1, up_s, gA_s, gA_sn, gN_sF, gA_sS, gN_sS, sA_st, sF_sF, sF_sS, sS_sS, arr_s, arr_n, arr_S, gA_aI, if_true, if_false, true_and, and_true, false_and, and_false, recS_1, gN_rec, iIt0, iIt1] at hz10
      refine lv_istore (lv' := [(4, .int (iI z10)), (3, .int (iI 1)), (0, .ref (ad G 10 0)), (1, .int (iI q)), (2, .int (iI x))]) hx hb dX6_set_52 hl (by decide) rfl (fun ls hl => ?_)
      refine lv_iload hx hb dX6_set_54 (lv_at hl 0 rfl) ?_
      refine lv_iload_n hx hb dX6_set_56 rfl (lv_at hl 4 rfl) ?_
      refine r_icmp_ne (tgt := 63) hx hb rz10 rx dX6_set_57 (by decide) (fun c11 => ?_) (fun c11 => ?_)
      · refine lv_aload_n hx hb dX6_set_63 rfl (lv_at hl 2 rfl) ?_
        refine k_Vv (j := 10) (k0 := 0) C0 hW (c_X6_records l G w1 (by first | omega | (simp (decide := true) only [hw1, up_s, gA_s, gA_sn, gN_sF, gA_sS, gN_sS, sA_st, sF_sF, sF_sS, sS_sS, arr_s, arr_n, arr_S, gA_aI, if_true, if_false, true_and, and_true, false_and, and_false, recS_1, gN_rec, iIt0, iIt1] <;> omega))) km_X6_80 ki_X6_records ke_X6_records kn_X6 kc_X6_records rfl hdV_X6_records ⟨by decide, by decide⟩ (show 10 < 11 ∧ 0 < bs 10 from ⟨by decide, by decide⟩) rfl rfl rfl hl.1 rfl (Nat.le_of_ble_eq_true rfl) dX6_set_64 (fun w12 H1 locs1 hp12 hW => ?_)
        have hw12 : w12 = _ := hp12
        refine lv_aload_n hx hb dX6_set_67 rfl (lv_at hl 2 rfl) ?_
        refine r_gR C0 hW (show 10 < 11 ∧ 0 < bs 10 from ⟨by decide, by decide⟩) rfl rfl hiX6 (k := 1) (by decide) kf_X6_7 rfl rfl rfl dX6_set_68 ?_
        refine lv_iload_n hx hb dX6_set_71 rfl (lv_at hl 3 rfl) ?_
        refine lv_iload_n hx hb dX6_set_72 rfl (lv_at hl 4 rfl) ?_
        refine r_ist C0 hW (show 10 < 11 ∧ 1 < bs 10 from ⟨by decide, by decide⟩) (fun A => rfl) (n := 941) (v := iI x) (by omega) (by omega) (by decide) dX6_set_73 (fun H1 locs1 hW => ?_)
        obtain ⟨w13, hw13⟩ : ∃ wq9 : gW, wq9 = up w12 10 (sA (w12 10) 1 q (iI x)) := ⟨_, rfl⟩
        rw [← hw13] at hW
        refine lv_iload hx hb dX6_set_74 (lv_at hl 0 rfl) ?_
        exact r_iret C0 hW rz10 (by first | exact Or.inl (⟨(by first | assumption | omega | trivial), (by first | omega | assumption | (simp only [hz10])), (by simp (decide := true) only [hw13, hw12, hw1, up_up, up_s, gA_s, gA_sn, gN_sF, gA_sS, gN_sS, sA_st, sF_sF, sF_sS, sS_sS, arr_s, arr_n, arr_S, gA_aI, if_true, if_false, true_and, and_true, false_and, and_false, recS_1, gN_rec, iIt0, iIt1, hz10])⟩) | exact Or.inr (Or.inl (⟨(by first | assumption | omega | trivial), (by first | assumption | omega | trivial), (by first | omega | assumption | (simp only [hz10])), (by simp (decide := true) only [hw13, hw12, hw1, up_up, up_s, gA_s, gA_sn, gN_sF, gA_sS, gN_sS, sA_st, sF_sF, sF_sS, sS_sS, arr_s, arr_n, arr_S, gA_aI, if_true, if_false, true_and, and_true, false_and, and_false, recS_1, gN_rec, iIt0, iIt1, hz10])⟩)) | exact Or.inr (Or.inr (⟨(by first | assumption | omega | trivial), (by first | assumption | omega | trivial), (by first | omega | assumption | (simp only [hz10])), (by simp (decide := true) only [hw13, hw12, hw1, up_up, up_s, gA_s, gA_sn, gN_sF, gA_sS, gN_sS, sA_st, sF_sF, sF_sS, sS_sS, arr_s, arr_n, arr_S, gA_aI, if_true, if_false, true_and, and_true, false_and, and_false, recS_1, gN_rec, iIt0, iIt1, hz10])⟩))) dX6_set_76
      · refine r_bipush hx hb dX6_set_60 (by decide) ?_
        exact r_iret C0 hW ⟨by omega, by omega⟩ (by first | exact Or.inl (⟨(by first | assumption | omega | trivial), (by first | omega | assumption | (simp only [hz10])), (by simp (decide := true) only [hw1, up_up, up_s, gA_s, gA_sn, gN_sF, gA_sS, gN_sS, sA_st, sF_sF, sF_sS, sS_sS, arr_s, arr_n, arr_S, gA_aI, if_true, if_false, true_and, and_true, false_and, and_false, recS_1, gN_rec, iIt0, iIt1, hz10])⟩) | exact Or.inr (Or.inl (⟨(by first | assumption | omega | trivial), (by first | assumption | omega | trivial), (by first | omega | assumption | (simp only [hz10])), (by simp (decide := true) only [hw1, up_up, up_s, gA_s, gA_sn, gN_sF, gA_sS, gN_sS, sA_st, sF_sF, sF_sS, sS_sS, arr_s, arr_n, arr_S, gA_aI, if_true, if_false, true_and, and_true, false_and, and_false, recS_1, gN_rec, iIt0, iIt1, hz10])⟩)) | exact Or.inr (Or.inr (⟨(by first | assumption | omega | trivial), (by first | assumption | omega | trivial), (by first | omega | assumption | (simp only [hz10])), (by simp (decide := true) only [hw1, up_up, up_s, gA_s, gA_sn, gN_sF, gA_sS, gN_sS, sA_st, sF_sF, sF_sS, sS_sS, arr_s, arr_n, arr_S, gA_aI, if_true, if_false, true_and, and_true, false_and, and_false, recS_1, gN_rec, iIt0, iIt1, hz10])⟩))) dX6_set_62
    · subst e9
      refine lv_goto (tgt := 38) hx hb dX6_set_16 (by decide) ?_
      refine lv_istore_n (lv' := [(3, .int (iI 0)), (0, .ref (ad G 10 0)), (1, .int (iI q)), (2, .int (iI x))]) hx hb dX6_set_38 rfl hl (by decide) rfl (fun ls hl => ?_)
      refine lv_iload_n hx hb dX6_set_39 rfl (lv_at hl 0 rfl) ?_
      refine r_if_ne (tgt := 46) hx hb ⟨by omega, by omega⟩ dX6_set_40 (by decide) (fun q => absurd q (by decide)) (fun _ => ?_)
      refine r_bipush hx hb dX6_set_43 (by decide) ?_
      exact r_iret C0 hW ⟨by omega, by omega⟩ (by first | exact Or.inl (⟨(by first | assumption | omega | trivial), (by first | omega | assumption | (simp only [id])), (by simp (decide := true) only [hw1, up_up, up_s, gA_s, gA_sn, gN_sF, gA_sS, gN_sS, sA_st, sF_sF, sF_sS, sS_sS, arr_s, arr_n, arr_S, gA_aI, if_true, if_false, true_and, and_true, false_and, and_false, recS_1, gN_rec, iIt0, iIt1, id])⟩) | exact Or.inr (Or.inl (⟨(by first | assumption | omega | trivial), (by first | assumption | omega | trivial), (by first | omega | assumption | (simp only [id])), (by simp (decide := true) only [hw1, up_up, up_s, gA_s, gA_sn, gN_sF, gA_sS, gN_sS, sA_st, sF_sF, sF_sS, sS_sS, arr_s, arr_n, arr_S, gA_aI, if_true, if_false, true_and, and_true, false_and, and_false, recS_1, gN_rec, iIt0, iIt1, id])⟩)) | exact Or.inr (Or.inr (⟨(by first | assumption | omega | trivial), (by first | assumption | omega | trivial), (by first | omega | assumption | (simp only [id])), (by simp (decide := true) only [hw1, up_up, up_s, gA_s, gA_sn, gN_sF, gA_sS, gN_sS, sA_st, sF_sF, sF_sS, sS_sS, arr_s, arr_n, arr_S, gA_aI, if_true, if_false, true_and, and_true, false_and, and_false, recS_1, gN_rec, iIt0, iIt1, id])⟩))) dX6_set_45
