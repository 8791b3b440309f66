/-- X6_readsGroup: its end -/
def po_X6_readsGroup (w : gW) : gW → Prop := fun w1 => ∃ M', stG (w 10) M' ∧ w1 = up w 10 M'
theorem hdV_X6_readsGroup : yX6_readsGroup.cls = RX6 ∧ yX6_readsGroup.cls ≠ "java/lang/invoke/MethodHandle" ∧ yX6_readsGroup.cls ≠ "java/lang/invoke/VarHandle" ∧ (parseMethodDescriptor yX6_readsGroup.desc).map (fun d => d.parameters.length) = some 0 := by decide +kernel
set_option maxHeartbeats 4000000 in
set_option maxRecDepth 100000 in
theorem c_X6_readsGroup (l : Launch) (G : gG) (w : gW) (ht9 : (0 ≤ gN (w 10) 0 9 ∧ gN (w 10) 0 9 ≤ 60) ∧ gN (w 10) 0 8 ≤ 60) (hg9 : 0 ≤ gN (w 10) 0 12 ∧ gN (w 10) 0 12 ≤ 59) : mV l G yX6_readsGroup (wU yX6_readsGroup cX6_readsGroup 2 none) (rmL 2 43) [.ref (ad G 10 0)] w (po_X6_readsGroup w) := by
  refine mV_of (by decide +kernel) (Nat.le_of_ble_eq_true rfl) (fun p e s m args below meth c ls C0 hW hl => ?_)
  have hl : lv_has ls 2 [(0, .ref (ad G 10 0))] := hl
  have hx := C0.hx
  have hb := C0.hb
  refine lv_aload_n hx hb dX6_readsGroup_0 rfl (lv_at hl 0 rfl) ?_
  refine k_Vi (j := 10) (k0 := 0) C0 hW (c_X6_sign l G w (by first | omega | (simp (decide := true) only [id, up_s, gA_s, gA_sn, gN_sF, gA_sS, gN_sS, sA_st, sF_sF, sF_sS, sS_sS, arr_s, arr_n, arr_S, gA_aI, if_true, if_false, true_and, and_true, false_and, and_false, iIt0, iIt1, sS_c, Int.add_zero, sgX_9, sgX_10, sgX_12, sgX_F, sgX_0, num9]; omega))) km_X6_125 ki_X6_sign ke_X6_sign kn_X6 kc_X6_sign rfl hdV_X6_sign ⟨by decide, by decide⟩ (show 10 < 11 ∧ 0 < bs 10 from ⟨by decide, by decide⟩) rfl rfl rfl hl.1 rfl (Nat.le_of_ble_eq_true rfl) dX6_readsGroup_1 (fun z1 w1 H1 locs1 rz1 hp1 hW => ?_)
  obtain ⟨hp1, hq1⟩ := hp1
  subst hq1
  have rz1a := rz1.1
  have rz1b := rz1.2
  try simp (decide := true) only [id, up_s, gA_s, gA_sn, gN_sF, gA_sS, gN_sS, sA_st, sF_sF, sF_sS, sS_sS, arr_s, arr_n, arr_S, gA_aI, if_true, if_false, true_and, and_true, false_and, and_false, iIt0, iIt1, sS_c, Int.add_zero, sgX_9, sgX_10, sgX_12, sgX_F, sgX_0, num9] at hp1
  refine lv_istore_n (lv' := [(1, .int (iI z1)), (0, .ref (ad G 10 0))]) hx hb dX6_readsGroup_4 rfl hl (by decide) rfl (fun ls hl => ?_)
  refine lv_aload_n hx hb dX6_readsGroup_5 rfl (lv_at hl 1 rfl) ?_
  refine lv_iload_n hx hb dX6_readsGroup_6 rfl (lv_at hl 0 rfl) ?_
  refine r_bipush hx hb dX6_readsGroup_7 (by decide) ?_
  refine r_icmp_eq (tgt := 24) hx hb rz1 ⟨by omega, by omega⟩ dX6_readsGroup_9 (by decide) (fun c2 => ?_) (fun c2 => ?_)
  · refine r_iconst hx hb dX6_readsGroup_24 ?_
    refine lv_goto (tgt := 29) hx hb dX6_readsGroup_25 (by decide) ?_
    refine r_pI C0 hW (show 10 < 11 ∧ 0 < bs 10 from ⟨by decide, by decide⟩) rfl rfl hiX6 tyX6 tyX6_ok nmX6 (k := 10) (v := iI 1) (by decide) kf_X6_128 rfl rfl rfl (tyX6_ok 10 (by decide)) (iI_bool (by first | exact Or.inl rfl | exact Or.inr rfl | omega)) (iI_fitz (by first | exact Or.inl rfl | exact Or.inr rfl | omega)) (by simp) rfl dX6_readsGroup_29 (fun H1 locs1 hW => ?_)
    obtain ⟨w3, hw3⟩ : ∃ wq9 : gW, wq9 = up w 10 (sS (w 10) 0 10 (iI 1)) := ⟨_, rfl⟩
    rw [← hw3] at hW
    have hvw3 : (iI 1).toInt = 1 := iI_t ⟨by omega, by omega⟩
    refine lv_aload_n hx hb dX6_readsGroup_32 rfl (lv_at hl 1 rfl) ?_
    refine lv_dup hx hb dX6_readsGroup_33 rfl ?_
    refine r_gI C0 hW (show 10 < 11 ∧ 0 < bs 10 from ⟨by decide, by decide⟩) rfl rfl hiX6 (k := 9) (by decide) kf_X6_122 rfl rfl rfl dX6_readsGroup_34 (fun z4 (hz4 : z4 = gN (w3 10) 0 9) rz4 => ?_)
    have rz4a := rz4.1
    have rz4b := rz4.2
    try simp (decide := true) only [hvw3, hw3, up_s, gA_s, gA_sn, gN_sF, gA_sS, gN_sS, sA_st, sF_sF, sF_sS, sS_sS, arr_s, arr_n, arr_S, gA_aI, if_true, if_false, true_and, and_true, false_and, and_false, iIt0, iIt1, sS_c, Int.add_zero, sgX_9, sgX_10, sgX_12, sgX_F, sgX_0, num9] at hz4
    refine lv_aload_n hx hb dX6_readsGroup_37 rfl (lv_at hl 1 rfl) ?_
    refine r_gI C0 hW (show 10 < 11 ∧ 0 < bs 10 from ⟨by decide, by decide⟩) rfl rfl hiX6 (k := 10) (by decide) kf_X6_128 rfl rfl rfl dX6_readsGroup_38 (fun z5 (hz5 : z5 = gN (w3 10) 0 10) rz5 => ?_)
    have rz5a := rz5.1
    have rz5b := rz5.2
    try simp (decide := true) only [hvw3, hw3, up_s, gA_s, gA_sn, gN_sF, gA_sS, gN_sS, sA_st, sF_sF, sF_sS, sS_sS, arr_s, arr_n, arr_S, gA_aI, if_true, if_false, true_and, and_true, false_and, and_false, iIt0, iIt1, sS_c, Int.add_zero, sgX_9, sgX_10, sgX_12, sgX_F, sgX_0, num9] at hz5
    refine r_if_eq (tgt := 48) hx hb rz5 dX6_readsGroup_41 (by decide) (fun c6 => ?_) (fun c6 => ?_)
    · exfalso; omega
    · refine r_iconst hx hb dX6_readsGroup_44 ?_
      refine lv_goto (tgt := 49) hx hb dX6_readsGroup_45 (by decide) ?_
      refine r_iadd hx hb dX6_readsGroup_49 ?_
      refine r_pI C0 hW (show 10 < 11 ∧ 0 < bs 10 from ⟨by decide, by decide⟩) rfl rfl hiX6 tyX6 tyX6_ok nmX6 (k := 9) (v := iI (z4 + 1)) (by decide) kf_X6_122 rfl rfl rfl (tyX6_ok 9 (by decide)) rfl rfl (by simp) rfl dX6_readsGroup_50 (fun H1 locs1 hW => ?_)
      obtain ⟨w7, hw7⟩ : ∃ wq9 : gW, wq9 = up w3 10 (sS (w3 10) 0 9 (iI (z4 + 1))) := ⟨_, rfl⟩
      rw [← hw7] at hW
      have hvw7 : (iI (z4 + 1)).toInt = (z4 + 1) := iI_t ⟨by omega, by omega⟩
      refine lv_aload_n hx hb dX6_readsGroup_53 rfl (lv_at hl 1 rfl) ?_
      refine r_gR C0 hW (show 10 < 11 ∧ 0 < bs 10 from ⟨by decide, by decide⟩) rfl rfl hiX6 (k := 11) (by decide) kf_X6_25 rfl rfl rfl dX6_readsGroup_54 ?_
      refine r_iconst hx hb dX6_readsGroup_57 ?_
      refine lv_aload_n hx hb dX6_readsGroup_58 rfl (lv_at hl 1 rfl) ?_
      refine r_gI C0 hW (show 10 < 11 ∧ 0 < bs 10 from ⟨by decide, by decide⟩) rfl rfl hiX6 (k := 12) (by decide) kf_X6_110 rfl rfl rfl dX6_readsGroup_59 (fun z8 (hz8 : z8 = gN (w7 10) 0 12) rz8 => ?_)
      have rz8a := rz8.1
      have rz8b := rz8.2
      try simp (decide := true) only [hvw7, hw7, hvw3, hw3, up_s, gA_s, gA_sn, gN_sF, gA_sS, gN_sS, sA_st, sF_sF, sF_sS, sS_sS, arr_s, arr_n, arr_S, gA_aI, if_true, if_false, true_and, and_true, false_and, and_false, iIt0, iIt1, sS_c, Int.add_zero, sgX_9, sgX_10, sgX_12, sgX_F, sgX_0, num9] at hz8
      refine r_imul hx hb dX6_readsGroup_62 ?_
      refine lv_iload_n hx hb dX6_readsGroup_63 rfl (lv_at hl 0 rfl) ?_
      refine r_bipush hx hb dX6_readsGroup_64 (by decide) ?_
      refine r_icmp_ne (tgt := 73) hx hb rz1 ⟨by omega, by omega⟩ dX6_readsGroup_66 (by decide) (fun c9 => ?_) (fun c9 => ?_)
      · exfalso; omega
      · refine r_iconst hx hb dX6_readsGroup_69 ?_
        refine lv_goto (tgt := 84) hx hb dX6_readsGroup_70 (by decide) ?_
        refine r_ist C0 hW (show 10 < 11 ∧ 6 < bs 10 from ⟨by decide, by decide⟩) (fun A => rfl) (n := 120) (v := iI 0) (by omega) (by omega) (by decide) dX6_readsGroup_84 (fun H1 locs1 hW => ?_)
        obtain ⟨w10, hw10⟩ : ∃ wq9 : gW, wq9 = up w7 10 (sA (w7 10) 6 (2 * z8) (iI 0)) := ⟨_, rfl⟩
        rw [← hw10] at hW
        refine lv_aload_n hx hb dX6_readsGroup_85 rfl (lv_at hl 1 rfl) ?_
        refine r_gR C0 hW (show 10 < 11 ∧ 0 < bs 10 from ⟨by decide, by decide⟩) rfl rfl hiX6 (k := 11) (by decide) kf_X6_25 rfl rfl rfl dX6_readsGroup_86 ?_
        refine r_iconst hx hb dX6_readsGroup_89 ?_
        refine lv_aload_n hx hb dX6_readsGroup_90 rfl (lv_at hl 1 rfl) ?_
        refine r_gI C0 hW (show 10 < 11 ∧ 0 < bs 10 from ⟨by decide, by decide⟩) rfl rfl hiX6 (k := 12) (by decide) kf_X6_110 rfl rfl rfl dX6_readsGroup_91 (fun z11 (hz11 : z11 = gN (w10 10) 0 12) rz11 => ?_)
        have rz11a := rz11.1
        have rz11b := rz11.2
        try simp (decide := true) only [hw10, hvw7, hw7, hvw3, hw3, up_s, gA_s, gA_sn, gN_sF, gA_sS, gN_sS, sA_st, sF_sF, sF_sS, sS_sS, arr_s, arr_n, arr_S, gA_aI, if_true, if_false, true_and, and_true, false_and, and_false, iIt0, iIt1, sS_c, Int.add_zero, sgX_9, sgX_10, sgX_12, sgX_F, sgX_0, num9] at hz11
        refine r_imul hx hb dX6_readsGroup_94 ?_
        refine r_iconst hx hb dX6_readsGroup_95 ?_
        refine r_iadd hx hb dX6_readsGroup_96 ?_
        refine lv_aload_n hx hb dX6_readsGroup_97 rfl (lv_at hl 1 rfl) ?_
        refine r_gI C0 hW (show 10 < 11 ∧ 0 < bs 10 from ⟨by decide, by decide⟩) rfl rfl hiX6 (k := 10) (by decide) kf_X6_128 rfl rfl rfl dX6_readsGroup_98 (fun z12 (hz12 : z12 = gN (w10 10) 0 10) rz12 => ?_)
        have rz12a := rz12.1
        have rz12b := rz12.2
        try simp (decide := true) only [hw10, hvw7, hw7, hvw3, hw3, up_s, gA_s, gA_sn, gN_sF, gA_sS, gN_sS, sA_st, sF_sF, sF_sS, sS_sS, arr_s, arr_n, arr_S, gA_aI, if_true, if_false, true_and, and_true, false_and, and_false, iIt0, iIt1, sS_c, Int.add_zero, sgX_9, sgX_10, sgX_12, sgX_F, sgX_0, num9] at hz12
        refine r_if_eq (tgt := 111) hx hb rz12 dX6_readsGroup_101 (by decide) (fun c13 => ?_) (fun c13 => ?_)
        · exfalso; omega
        · refine lv_aload_n hx hb dX6_readsGroup_104 rfl (lv_at hl 1 rfl) ?_
          refine k_Vi (j := 10) (k0 := 0) C0 hW (c_X6_number l G w10 (by first | omega | (simp (decide := true) only [hw10, hvw7, hw7, hvw3, hw3, up_s, gA_s, gA_sn, gN_sF, gA_sS, gN_sS, sA_st, sF_sF, sF_sS, sS_sS, arr_s, arr_n, arr_S, gA_aI, if_true, if_false, true_and, and_true, false_and, and_false, iIt0, iIt1, sS_c, Int.add_zero, sgX_9, sgX_10, sgX_12, sgX_F, sgX_0, num9]; omega))) km_X6_132 ki_X6_number ke_X6_number kn_X6 kc_X6_number rfl hdV_X6_number ⟨by decide, by decide⟩ (show 10 < 11 ∧ 0 < bs 10 from ⟨by decide, by decide⟩) rfl rfl rfl hl.1 rfl (Nat.le_of_ble_eq_true rfl) dX6_readsGroup_105 (fun z14 w14 H1 locs1 rz14 hp14 hW => ?_)
          rcases hp14 with ⟨cd14_0, hz14, hw14⟩ | ⟨cd14_0, hz14, hw14⟩ | ⟨cd14_0, cd14_1, hz14, hw14⟩ | ⟨cd14_0, cd14_1, hz14, hw14⟩ | ⟨cd14_0, cd14_1, hz14, hw14⟩
          · skip
            have rz14a := rz14.1
            have rz14b := rz14.2
            try simp (decide := true) only [hw10, hvw7, hw7, hvw3, hw3, up_s, gA_s, gA_sn, gN_sF, gA_sS, gN_sS, sA_st, sF_sF, sF_sS, sS_sS, arr_s, arr_n, arr_S, gA_aI, if_true, if_false, true_and, and_true, false_and, and_false, iIt0, iIt1, sS_c, Int.add_zero, sgX_9, sgX_10, sgX_12, sgX_F, sgX_0, num9] at cd14_0; (try simp only [hz4, hz5, hz8, hz11, hz12] at cd14_0)
            try simp (decide := true) only [hw10, hvw7, hw7, hvw3, hw3, up_s, gA_s, gA_sn, gN_sF, gA_sS, gN_sS, sA_st, sF_sF, sF_sS, sS_sS, arr_s, arr_n, arr_S, gA_aI, if_true, if_false, true_and, and_true, false_and, and_false, iIt0, iIt1, sS_c, Int.add_zero, sgX_9, sgX_10, sgX_12, sgX_F, sgX_0, num9] at hz14; (try simp only [hz4, hz5, hz8, hz11, hz12] at hz14)
            refine lv_goto (tgt := 112) hx hb dX6_readsGroup_108 (by decide) ?_
            refine r_ist C0 hW (show 10 < 11 ∧ 6 < bs 10 from ⟨by decide, by decide⟩) (fun A => rfl) (n := 120) (v := iI z14) (by omega) (by omega) (by decide) dX6_readsGroup_112 (fun H1 locs1 hW => ?_)
            obtain ⟨w15, hw15⟩ : ∃ wq9 : gW, wq9 = up w14 10 (sA (w14 10) 6 ((2 * z11) + 1) (iI z14)) := ⟨_, rfl⟩
            rw [← hw15] at hW
            refine lv_aload_n hx hb dX6_readsGroup_113 rfl (lv_at hl 1 rfl) ?_
            refine lv_dup hx hb dX6_readsGroup_114 rfl ?_
            refine r_gI C0 hW (show 10 < 11 ∧ 0 < bs 10 from ⟨by decide, by decide⟩) rfl rfl hiX6 (k := 12) (by decide) kf_X6_110 rfl rfl rfl dX6_readsGroup_115 (fun z16 (hz16 : z16 = gN (w15 10) 0 12) rz16 => ?_)
            have rz16a := rz16.1
            have rz16b := rz16.2
            try simp (decide := true) only [hw15, hw14, hw10, hvw7, hw7, hvw3, hw3, up_s, gA_s, gA_sn, gN_sF, gA_sS, gN_sS, sA_st, sF_sF, sF_sS, sS_sS, arr_s, arr_n, arr_S, gA_aI, if_true, if_false, true_and, and_true, false_and, and_false, iIt0, iIt1, sS_c, Int.add_zero, sgX_9, sgX_10, sgX_12, sgX_F, sgX_0, num9] at hz16
            refine lv_aload_n hx hb dX6_readsGroup_118 rfl (lv_at hl 1 rfl) ?_
            refine r_gI C0 hW (show 10 < 11 ∧ 0 < bs 10 from ⟨by decide, by decide⟩) rfl rfl hiX6 (k := 10) (by decide) kf_X6_128 rfl rfl rfl dX6_readsGroup_119 (fun z17 (hz17 : z17 = gN (w15 10) 0 10) rz17 => ?_)
            have rz17a := rz17.1
            have rz17b := rz17.2
            try simp (decide := true) only [hw15, hw14, hw10, hvw7, hw7, hvw3, hw3, up_s, gA_s, gA_sn, gN_sF, gA_sS, gN_sS, sA_st, sF_sF, sF_sS, sS_sS, arr_s, arr_n, arr_S, gA_aI, if_true, if_false, true_and, and_true, false_and, and_false, iIt0, iIt1, sS_c, Int.add_zero, sgX_9, sgX_10, sgX_12, sgX_F, sgX_0, num9] at hz17
            refine r_if_eq (tgt := 129) hx hb rz17 dX6_readsGroup_122 (by decide) (fun c18 => ?_) (fun c18 => ?_)
            · exfalso; omega
            · refine r_iconst hx hb dX6_readsGroup_125 ?_
              refine lv_goto (tgt := 130) hx hb dX6_readsGroup_126 (by decide) ?_
              refine r_iadd hx hb dX6_readsGroup_130 ?_
              refine r_pI C0 hW (show 10 < 11 ∧ 0 < bs 10 from ⟨by decide, by decide⟩) rfl rfl hiX6 tyX6 tyX6_ok nmX6 (k := 12) (v := iI (z16 + 1)) (by decide) kf_X6_110 rfl rfl rfl (tyX6_ok 12 (by decide)) rfl rfl (by simp) rfl dX6_readsGroup_131 (fun H1 locs1 hW => ?_)
              obtain ⟨w19, hw19⟩ : ∃ wq9 : gW, wq9 = up w15 10 (sS (w15 10) 0 12 (iI (z16 + 1))) := ⟨_, rfl⟩
              rw [← hw19] at hW
              have hvw19 : (iI (z16 + 1)).toInt = (z16 + 1) := iI_t ⟨by omega, by omega⟩
              exact r_vret C0 hW (⟨grp9 (w 10) (gN (w 10) 0 9 + 1) 1 (wOf (sgX (w 10) (gN (w 10) 0 9))) (1) (gN (w 10) 0 12 + 1), Or.inr (Or.inl (⟨(by unfold isD3; omega), (by first | assumption | omega), (rfl)⟩)), by rw [show wOf (sgX (w 10) (gN (w 10) 0 9)) = 0 from by unfold wOf; first | (rw [if_pos (by omega)]) | (rw [if_neg (by omega), if_pos (by omega)]) | (rw [if_neg (by omega), if_neg (by omega)])]; simp (decide := true) only [hvw19, hw19, hw15, hw14, hw10, hvw7, hw7, hvw3, hw3, up_up, up_s, gA_s, gA_sn, gN_sF, gA_sS, gN_sS, sA_st, sF_sF, sF_sS, sS_sS, arr_s, arr_n, arr_S, gA_aI, if_true, if_false, true_and, and_true, false_and, and_false, iIt0, iIt1, sS_c, Int.add_zero, sgX_9, sgX_10, sgX_12, sgX_F, sgX_0, num9, num9, grp9]; (try simp only [hz4, hz5, hz8, hz11, hz12, hz14, hz16, hz17])⟩) dX6_readsGroup_134
          · skip
            have rz14a := rz14.1
            have rz14b := rz14.2
            try simp (decide := true) only [hw10, hvw7, hw7, hvw3, hw3, up_s, gA_s, gA_sn, gN_sF, gA_sS, gN_sS, sA_st, sF_sF, sF_sS, sS_sS, arr_s, arr_n, arr_S, gA_aI, if_true, if_false, true_and, and_true, false_and, and_false, iIt0, iIt1, sS_c, Int.add_zero, sgX_9, sgX_10, sgX_12, sgX_F, sgX_0, num9] at cd14_0; (try simp only [hz4, hz5, hz8, hz11, hz12] at cd14_0)
            try simp (decide := true) only [hw10, hvw7, hw7, hvw3, hw3, up_s, gA_s, gA_sn, gN_sF, gA_sS, gN_sS, sA_st, sF_sF, sF_sS, sS_sS, arr_s, arr_n, arr_S, gA_aI, if_true, if_false, true_and, and_true, false_and, and_false, iIt0, iIt1, sS_c, Int.add_zero, sgX_9, sgX_10, sgX_12, sgX_F, sgX_0, num9] at hz14; (try simp only [hz4, hz5, hz8, hz11, hz12] at hz14)
            refine lv_goto (tgt := 112) hx hb dX6_readsGroup_108 (by decide) ?_
            refine r_ist C0 hW (show 10 < 11 ∧ 6 < bs 10 from ⟨by decide, by decide⟩) (fun A => rfl) (n := 120) (v := iI z14) (by omega) (by omega) (by decide) dX6_readsGroup_112 (fun H1 locs1 hW => ?_)
            obtain ⟨w20, hw20⟩ : ∃ wq9 : gW, wq9 = up w14 10 (sA (w14 10) 6 ((2 * z11) + 1) (iI z14)) := ⟨_, rfl⟩
            rw [← hw20] at hW
            refine lv_aload_n hx hb dX6_readsGroup_113 rfl (lv_at hl 1 rfl) ?_
            refine lv_dup hx hb dX6_readsGroup_114 rfl ?_
            refine r_gI C0 hW (show 10 < 11 ∧ 0 < bs 10 from ⟨by decide, by decide⟩) rfl rfl hiX6 (k := 12) (by decide) kf_X6_110 rfl rfl rfl dX6_readsGroup_115 (fun z21 (hz21 : z21 = gN (w20 10) 0 12) rz21 => ?_)
            have rz21a := rz21.1
            have rz21b := rz21.2
            try simp (decide := true) only [hw20, hw14, hw10, hvw7, hw7, hvw3, hw3, up_s, gA_s, gA_sn, gN_sF, gA_sS, gN_sS, sA_st, sF_sF, sF_sS, sS_sS, arr_s, arr_n, arr_S, gA_aI, if_true, if_false, true_and, and_true, false_and, and_false, iIt0, iIt1, sS_c, Int.add_zero, sgX_9, sgX_10, sgX_12, sgX_F, sgX_0, num9] at hz21
            refine lv_aload_n hx hb dX6_readsGroup_118 rfl (lv_at hl 1 rfl) ?_
            refine r_gI C0 hW (show 10 < 11 ∧ 0 < bs 10 from ⟨by decide, by decide⟩) rfl rfl hiX6 (k := 10) (by decide) kf_X6_128 rfl rfl rfl dX6_readsGroup_119 (fun z22 (hz22 : z22 = gN (w20 10) 0 10) rz22 => ?_)
            have rz22a := rz22.1
            have rz22b := rz22.2
            try simp (decide := true) only [hw20, hw14, hw10, hvw7, hw7, hvw3, hw3, up_s, gA_s, gA_sn, gN_sF, gA_sS, gN_sS, sA_st, sF_sF, sF_sS, sS_sS, arr_s, arr_n, arr_S, gA_aI, if_true, if_false, true_and, and_true, false_and, and_false, iIt0, iIt1, sS_c, Int.add_zero, sgX_9, sgX_10, sgX_12, sgX_F, sgX_0, num9] at hz22
            refine r_if_eq (tgt := 129) hx hb rz22 dX6_readsGroup_122 (by decide) (fun c23 => ?_) (fun c23 => ?_)
            · refine r_iconst hx hb dX6_readsGroup_129 ?_
              refine r_iadd hx hb dX6_readsGroup_130 ?_
              refine r_pI C0 hW (show 10 < 11 ∧ 0 < bs 10 from ⟨by decide, by decide⟩) rfl rfl hiX6 tyX6 tyX6_ok nmX6 (k := 12) (v := iI (z21 + 0)) (by decide) kf_X6_110 rfl rfl rfl (tyX6_ok 12 (by decide)) rfl rfl (by simp) rfl dX6_readsGroup_131 (fun H1 locs1 hW => ?_)
              obtain ⟨w24, hw24⟩ : ∃ wq9 : gW, wq9 = up w20 10 (sS (w20 10) 0 12 (iI (z21 + 0))) := ⟨_, rfl⟩
              rw [← hw24] at hW
              have hvw24 : (iI (z21 + 0)).toInt = (z21 + 0) := iI_t ⟨by omega, by omega⟩
              exact r_vret C0 hW (⟨grp9 (w 10) (gN (w 10) 0 9 + 1) 0 (wOf (sgX (w 10) (gN (w 10) 0 9))) (0) (gN (w 10) 0 12), Or.inr (Or.inr (Or.inl (⟨(by unfold isD3; omega), (by first | assumption | omega), (rfl)⟩))), by rw [show wOf (sgX (w 10) (gN (w 10) 0 9)) = 0 from by unfold wOf; first | (rw [if_pos (by omega)]) | (rw [if_neg (by omega), if_pos (by omega)]) | (rw [if_neg (by omega), if_neg (by omega)])]; simp (decide := true) only [hvw24, hw24, hw20, hw14, hw10, hvw7, hw7, hvw3, hw3, up_up, up_s, gA_s, gA_sn, gN_sF, gA_sS, gN_sS, sA_st, sF_sF, sF_sS, sS_sS, arr_s, arr_n, arr_S, gA_aI, if_true, if_false, true_and, and_true, false_and, and_false, iIt0, iIt1, sS_c, Int.add_zero, sgX_9, sgX_10, sgX_12, sgX_F, sgX_0, num9, num9, grp9]; (try simp only [hz4, hz5, hz8, hz11, hz12, hz14, hz21, hz22])⟩) dX6_readsGroup_134
            · exfalso; omega
          · skip
            have rz14a := rz14.1
            have rz14b := rz14.2
            try simp (decide := true) only [hw10, hvw7, hw7, hvw3, hw3, up_s, gA_s, gA_sn, gN_sF, gA_sS, gN_sS, sA_st, sF_sF, sF_sS, sS_sS, arr_s, arr_n, arr_S, gA_aI, if_true, if_false, true_and, and_true, false_and, and_false, iIt0, iIt1, sS_c, Int.add_zero, sgX_9, sgX_10, sgX_12, sgX_F, sgX_0, num9] at cd14_0; (try simp only [hz4, hz5, hz8, hz11, hz12] at cd14_0)
            try simp (decide := true) only [hw10, hvw7, hw7, hvw3, hw3, up_s, gA_s, gA_sn, gN_sF, gA_sS, gN_sS, sA_st, sF_sF, sF_sS, sS_sS, arr_s, arr_n, arr_S, gA_aI, if_true, if_false, true_and, and_true, false_and, and_false, iIt0, iIt1, sS_c, Int.add_zero, sgX_9, sgX_10, sgX_12, sgX_F, sgX_0, num9] at cd14_1; (try simp only [hz4, hz5, hz8, hz11, hz12] at cd14_1)
            try simp (decide := true) only [hw10, hvw7, hw7, hvw3, hw3, up_s, gA_s, gA_sn, gN_sF, gA_sS, gN_sS, sA_st, sF_sF, sF_sS, sS_sS, arr_s, arr_n, arr_S, gA_aI, if_true, if_false, true_and, and_true, false_and, and_false, iIt0, iIt1, sS_c, Int.add_zero, sgX_9, sgX_10, sgX_12, sgX_F, sgX_0, num9] at hz14; (try simp only [hz4, hz5, hz8, hz11, hz12] at hz14)
            refine lv_goto (tgt := 112) hx hb dX6_readsGroup_108 (by decide) ?_
            refine r_ist C0 hW (show 10 < 11 ∧ 6 < bs 10 from ⟨by decide, by decide⟩) (fun A => rfl) (n := 120) (v := iI z14) (by omega) (by omega) (by decide) dX6_readsGroup_112 (fun H1 locs1 hW => ?_)
            obtain ⟨w25, hw25⟩ : ∃ wq9 : gW, wq9 = up w14 10 (sA (w14 10) 6 ((2 * z11) + 1) (iI z14)) := ⟨_, rfl⟩
            rw [← hw25] at hW
            refine lv_aload_n hx hb dX6_readsGroup_113 rfl (lv_at hl 1 rfl) ?_
            refine lv_dup hx hb dX6_readsGroup_114 rfl ?_
            refine r_gI C0 hW (show 10 < 11 ∧ 0 < bs 10 from ⟨by decide, by decide⟩) rfl rfl hiX6 (k := 12) (by decide) kf_X6_110 rfl rfl rfl dX6_readsGroup_115 (fun z26 (hz26 : z26 = gN (w25 10) 0 12) rz26 => ?_)
            have rz26a := rz26.1
            have rz26b := rz26.2
            try simp (decide := true) only [hw25, hw14, hw10, hvw7, hw7, hvw3, hw3, up_s, gA_s, gA_sn, gN_sF, gA_sS, gN_sS, sA_st, sF_sF, sF_sS, sS_sS, arr_s, arr_n, arr_S, gA_aI, if_true, if_false, true_and, and_true, false_and, and_false, iIt0, iIt1, sS_c, Int.add_zero, sgX_9, sgX_10, sgX_12, sgX_F, sgX_0, num9] at hz26
            refine lv_aload_n hx hb dX6_readsGroup_118 rfl (lv_at hl 1 rfl) ?_
            refine r_gI C0 hW (show 10 < 11 ∧ 0 < bs 10 from ⟨by decide, by decide⟩) rfl rfl hiX6 (k := 10) (by decide) kf_X6_128 rfl rfl rfl dX6_readsGroup_119 (fun z27 (hz27 : z27 = gN (w25 10) 0 10) rz27 => ?_)
            have rz27a := rz27.1
            have rz27b := rz27.2
            try simp (decide := true) only [hw25, hw14, hw10, hvw7, hw7, hvw3, hw3, up_s, gA_s, gA_sn, gN_sF, gA_sS, gN_sS, sA_st, sF_sF, sF_sS, sS_sS, arr_s, arr_n, arr_S, gA_aI, if_true, if_false, true_and, and_true, false_and, and_false, iIt0, iIt1, sS_c, Int.add_zero, sgX_9, sgX_10, sgX_12, sgX_F, sgX_0, num9] at hz27
            refine r_if_eq (tgt := 129) hx hb rz27 dX6_readsGroup_122 (by decide) (fun c28 => ?_) (fun c28 => ?_)
            · exfalso; omega
            · refine r_iconst hx hb dX6_readsGroup_125 ?_
              refine lv_goto (tgt := 130) hx hb dX6_readsGroup_126 (by decide) ?_
              refine r_iadd hx hb dX6_readsGroup_130 ?_
              refine r_pI C0 hW (show 10 < 11 ∧ 0 < bs 10 from ⟨by decide, by decide⟩) rfl rfl hiX6 tyX6 tyX6_ok nmX6 (k := 12) (v := iI (z26 + 1)) (by decide) kf_X6_110 rfl rfl rfl (tyX6_ok 12 (by decide)) rfl rfl (by simp) rfl dX6_readsGroup_131 (fun H1 locs1 hW => ?_)
              obtain ⟨w29, hw29⟩ : ∃ wq9 : gW, wq9 = up w25 10 (sS (w25 10) 0 12 (iI (z26 + 1))) := ⟨_, rfl⟩
              rw [← hw29] at hW
              have hvw29 : (iI (z26 + 1)).toInt = (z26 + 1) := iI_t ⟨by omega, by omega⟩
              exact r_vret C0 hW (⟨grp9 (w 10) (gN (w 10) 0 9 + 1 + 1 + 1) 1 (wOf (sgX (w 10) (gN (w 10) 0 9))) (10 * (sgX (w 10) (gN (w 10) 0 9 + 1) - 48) + sgX (w 10) (gN (w 10) 0 9 + 1 + 1) - 48) (gN (w 10) 0 12 + 1), Or.inr (Or.inr (Or.inr (Or.inl (⟨(by unfold isD3; omega), (by first | assumption | omega), (by first | assumption | omega), (rfl)⟩)))), by rw [show wOf (sgX (w 10) (gN (w 10) 0 9)) = 0 from by unfold wOf; first | (rw [if_pos (by omega)]) | (rw [if_neg (by omega), if_pos (by omega)]) | (rw [if_neg (by omega), if_neg (by omega)])]; simp (decide := true) only [hvw29, hw29, hw25, hw14, hw10, hvw7, hw7, hvw3, hw3, up_up, up_s, gA_s, gA_sn, gN_sF, gA_sS, gN_sS, sA_st, sF_sF, sF_sS, sS_sS, arr_s, arr_n, arr_S, gA_aI, if_true, if_false, true_and, and_true, false_and, and_false, iIt0, iIt1, sS_c, Int.add_zero, sgX_9, sgX_10, sgX_12, sgX_F, sgX_0, num9, num9, grp9]; (try simp only [hz4, hz5, hz8, hz11, hz12, hz14, hz26, hz27])⟩) dX6_readsGroup_134
          · skip
            have rz14a := rz14.1
            have rz14b := rz14.2
            try simp (decide := true) only [hw10, hvw7, hw7, hvw3, hw3, up_s, gA_s, gA_sn, gN_sF, gA_sS, gN_sS, sA_st, sF_sF, sF_sS, sS_sS, arr_s, arr_n, arr_S, gA_aI, if_true, if_false, true_and, and_true, false_and, and_false, iIt0, iIt1, sS_c, Int.add_zero, sgX_9, sgX_10, sgX_12, sgX_F, sgX_0, num9] at cd14_0; (try simp only [hz4, hz5, hz8, hz11, hz12] at cd14_0)
            try simp (decide := true) only [hw10, hvw7, hw7, hvw3, hw3, up_s, gA_s, gA_sn, gN_sF, gA_sS, gN_sS, sA_st, sF_sF, sF_sS, sS_sS, arr_s, arr_n, arr_S, gA_aI, if_true, if_false, true_and, and_true, false_and, and_false, iIt0, iIt1, sS_c, Int.add_zero, sgX_9, sgX_10, sgX_12, sgX_F, sgX_0, num9] at cd14_1; (try simp only [hz4, hz5, hz8, hz11, hz12] at cd14_1)
            try simp (decide := true) only [hw10, hvw7, hw7, hvw3, hw3, up_s, gA_s, gA_sn, gN_sF, gA_sS, gN_sS, sA_st, sF_sF, sF_sS, sS_sS, arr_s, arr_n, arr_S, gA_aI, if_true, if_false, true_and, and_true, false_and, and_false, iIt0, iIt1, sS_c, Int.add_zero, sgX_9, sgX_10, sgX_12, sgX_F, sgX_0, num9] at hz14; (try simp only [hz4, hz5, hz8, hz11, hz12] at hz14)
            refine lv_goto (tgt := 112) hx hb dX6_readsGroup_108 (by decide) ?_
            refine r_ist C0 hW (show 10 < 11 ∧ 6 < bs 10 from ⟨by decide, by decide⟩) (fun A => rfl) (n := 120) (v := iI z14) (by omega) (by omega) (by decide) dX6_readsGroup_112 (fun H1 locs1 hW => ?_)
            obtain ⟨w30, hw30⟩ : ∃ wq9 : gW, wq9 = up w14 10 (sA (w14 10) 6 ((2 * z11) + 1) (iI z14)) := ⟨_, rfl⟩
            rw [← hw30] at hW
            refine lv_aload_n hx hb dX6_readsGroup_113 rfl (lv_at hl 1 rfl) ?_
            refine lv_dup hx hb dX6_readsGroup_114 rfl ?_
            refine r_gI C0 hW (show 10 < 11 ∧ 0 < bs 10 from ⟨by decide, by decide⟩) rfl rfl hiX6 (k := 12) (by decide) kf_X6_110 rfl rfl rfl dX6_readsGroup_115 (fun z31 (hz31 : z31 = gN (w30 10) 0 12) rz31 => ?_)
            have rz31a := rz31.1
            have rz31b := rz31.2
            try simp (decide := true) only [hw30, hw14, hw10, hvw7, hw7, hvw3, hw3, up_s, gA_s, gA_sn, gN_sF, gA_sS, gN_sS, sA_st, sF_sF, sF_sS, sS_sS, arr_s, arr_n, arr_S, gA_aI, if_true, if_false, true_and, and_true, false_and, and_false, iIt0, iIt1, sS_c, Int.add_zero, sgX_9, sgX_10, sgX_12, sgX_F, sgX_0, num9] at hz31
            refine lv_aload_n hx hb dX6_readsGroup_118 rfl (lv_at hl 1 rfl) ?_
            refine r_gI C0 hW (show 10 < 11 ∧ 0 < bs 10 from ⟨by decide, by decide⟩) rfl rfl hiX6 (k := 10) (by decide) kf_X6_128 rfl rfl rfl dX6_readsGroup_119 (fun z32 (hz32 : z32 = gN (w30 10) 0 10) rz32 => ?_)
            have rz32a := rz32.1
            have rz32b := rz32.2
            try simp (decide := true) only [hw30, hw14, hw10, hvw7, hw7, hvw3, hw3, up_s, gA_s, gA_sn, gN_sF, gA_sS, gN_sS, sA_st, sF_sF, sF_sS, sS_sS, arr_s, arr_n, arr_S, gA_aI, if_true, if_false, true_and, and_true, false_and, and_false, iIt0, iIt1, sS_c, Int.add_zero, sgX_9, sgX_10, sgX_12, sgX_F, sgX_0, num9] at hz32
            refine r_if_eq (tgt := 129) hx hb rz32 dX6_readsGroup_122 (by decide) (fun c33 => ?_) (fun c33 => ?_)
            · refine r_iconst hx hb dX6_readsGroup_129 ?_
              refine r_iadd hx hb dX6_readsGroup_130 ?_
              refine r_pI C0 hW (show 10 < 11 ∧ 0 < bs 10 from ⟨by decide, by decide⟩) rfl rfl hiX6 tyX6 tyX6_ok nmX6 (k := 12) (v := iI (z31 + 0)) (by decide) kf_X6_110 rfl rfl rfl (tyX6_ok 12 (by decide)) rfl rfl (by simp) rfl dX6_readsGroup_131 (fun H1 locs1 hW => ?_)
              obtain ⟨w34, hw34⟩ : ∃ wq9 : gW, wq9 = up w30 10 (sS (w30 10) 0 12 (iI (z31 + 0))) := ⟨_, rfl⟩
              rw [← hw34] at hW
              have hvw34 : (iI (z31 + 0)).toInt = (z31 + 0) := iI_t ⟨by omega, by omega⟩
              exact r_vret C0 hW (⟨grp9 (w 10) (gN (w 10) 0 9 + 1 + 1) 0 (wOf (sgX (w 10) (gN (w 10) 0 9))) (1) (gN (w 10) 0 12), Or.inr (Or.inr (Or.inr (Or.inr (Or.inl (⟨(by unfold isD3; omega), (by first | assumption | omega), (by first | assumption | omega), (rfl)⟩))))), by rw [show wOf (sgX (w 10) (gN (w 10) 0 9)) = 0 from by unfold wOf; first | (rw [if_pos (by omega)]) | (rw [if_neg (by omega), if_pos (by omega)]) | (rw [if_neg (by omega), if_neg (by omega)])]; simp (decide := true) only [hvw34, hw34, hw30, hw14, hw10, hvw7, hw7, hvw3, hw3, up_up, up_s, gA_s, gA_sn, gN_sF, gA_sS, gN_sS, sA_st, sF_sF, sF_sS, sS_sS, arr_s, arr_n, arr_S, gA_aI, if_true, if_false, true_and, and_true, false_and, and_false, iIt0, iIt1, sS_c, Int.add_zero, sgX_9, sgX_10, sgX_12, sgX_F, sgX_0, num9, num9, grp9]; (try simp only [hz4, hz5, hz8, hz11, hz12, hz14, hz31, hz32])⟩) dX6_readsGroup_134
            · exfalso; omega
          · skip
            have rz14a := rz14.1
            have rz14b := rz14.2
            try simp (decide := true) only [hw10, hvw7, hw7, hvw3, hw3, up_s, gA_s, gA_sn, gN_sF, gA_sS, gN_sS, sA_st, sF_sF, sF_sS, sS_sS, arr_s, arr_n, arr_S, gA_aI, if_true, if_false, true_and, and_true, false_and, and_false, iIt0, iIt1, sS_c, Int.add_zero, sgX_9, sgX_10, sgX_12, sgX_F, sgX_0, num9] at cd14_0; (try simp only [hz4, hz5, hz8, hz11, hz12] at cd14_0)
            try simp (decide := true) only [hw10, hvw7, hw7, hvw3, hw3, up_s, gA_s, gA_sn, gN_sF, gA_sS, gN_sS, sA_st, sF_sF, sF_sS, sS_sS, arr_s, arr_n, arr_S, gA_aI, if_true, if_false, true_and, and_true, false_and, and_false, iIt0, iIt1, sS_c, Int.add_zero, sgX_9, sgX_10, sgX_12, sgX_F, sgX_0, num9] at cd14_1; (try simp only [hz4, hz5, hz8, hz11, hz12] at cd14_1)
            try simp (decide := true) only [hw10, hvw7, hw7, hvw3, hw3, up_s, gA_s, gA_sn, gN_sF, gA_sS, gN_sS, sA_st, sF_sF, sF_sS, sS_sS, arr_s, arr_n, arr_S, gA_aI, if_true, if_false, true_and, and_true, false_and, and_false, iIt0, iIt1, sS_c, Int.add_zero, sgX_9, sgX_10, sgX_12, sgX_F, sgX_0, num9] at hz14; (try simp only [hz4, hz5, hz8, hz11, hz12] at hz14)
            refine lv_goto (tgt := 112) hx hb dX6_readsGroup_108 (by decide) ?_
            refine r_ist C0 hW (show 10 < 11 ∧ 6 < bs 10 from ⟨by decide, by decide⟩) (fun A => rfl) (n := 120) (v := iI z14) (by omega) (by omega) (by decide) dX6_readsGroup_112 (fun H1 locs1 hW => ?_)
            obtain ⟨w35, hw35⟩ : ∃ wq9 : gW, wq9 = up w14 10 (sA (w14 10) 6 ((2 * z11) + 1) (iI z14)) := ⟨_, rfl⟩
            rw [← hw35] at hW
            refine lv_aload_n hx hb dX6_readsGroup_113 rfl (lv_at hl 1 rfl) ?_
            refine lv_dup hx hb dX6_readsGroup_114 rfl ?_
            refine r_gI C0 hW (show 10 < 11 ∧ 0 < bs 10 from ⟨by decide, by decide⟩) rfl rfl hiX6 (k := 12) (by decide) kf_X6_110 rfl rfl rfl dX6_readsGroup_115 (fun z36 (hz36 : z36 = gN (w35 10) 0 12) rz36 => ?_)
            have rz36a := rz36.1
            have rz36b := rz36.2
            try simp (decide := true) only [hw35, hw14, hw10, hvw7, hw7, hvw3, hw3, up_s, gA_s, gA_sn, gN_sF, gA_sS, gN_sS, sA_st, sF_sF, sF_sS, sS_sS, arr_s, arr_n, arr_S, gA_aI, if_true, if_false, true_and, and_true, false_and, and_false, iIt0, iIt1, sS_c, Int.add_zero, sgX_9, sgX_10, sgX_12, sgX_F, sgX_0, num9] at hz36
            refine lv_aload_n hx hb dX6_readsGroup_118 rfl (lv_at hl 1 rfl) ?_
            refine r_gI C0 hW (show 10 < 11 ∧ 0 < bs 10 from ⟨by decide, by decide⟩) rfl rfl hiX6 (k := 10) (by decide) kf_X6_128 rfl rfl rfl dX6_readsGroup_119 (fun z37 (hz37 : z37 = gN (w35 10) 0 10) rz37 => ?_)
            have rz37a := rz37.1
            have rz37b := rz37.2
            try simp (decide := true) only [hw35, hw14, hw10, hvw7, hw7, hvw3, hw3, up_s, gA_s, gA_sn, gN_sF, gA_sS, gN_sS, sA_st, sF_sF, sF_sS, sS_sS, arr_s, arr_n, arr_S, gA_aI, if_true, if_false, true_and, and_true, false_and, and_false, iIt0, iIt1, sS_c, Int.add_zero, sgX_9, sgX_10, sgX_12, sgX_F, sgX_0, num9] at hz37
            refine r_if_eq (tgt := 129) hx hb rz37 dX6_readsGroup_122 (by decide) (fun c38 => ?_) (fun c38 => ?_)
            · exfalso; omega
            · refine r_iconst hx hb dX6_readsGroup_125 ?_
              refine lv_goto (tgt := 130) hx hb dX6_readsGroup_126 (by decide) ?_
              refine r_iadd hx hb dX6_readsGroup_130 ?_
              refine r_pI C0 hW (show 10 < 11 ∧ 0 < bs 10 from ⟨by decide, by decide⟩) rfl rfl hiX6 tyX6 tyX6_ok nmX6 (k := 12) (v := iI (z36 + 1)) (by decide) kf_X6_110 rfl rfl rfl (tyX6_ok 12 (by decide)) rfl rfl (by simp) rfl dX6_readsGroup_131 (fun H1 locs1 hW => ?_)
              obtain ⟨w39, hw39⟩ : ∃ wq9 : gW, wq9 = up w35 10 (sS (w35 10) 0 12 (iI (z36 + 1))) := ⟨_, rfl⟩
              rw [← hw39] at hW
              have hvw39 : (iI (z36 + 1)).toInt = (z36 + 1) := iI_t ⟨by omega, by omega⟩
              exact r_vret C0 hW (⟨grp9 (w 10) (gN (w 10) 0 9 + 1 + 1) 1 (wOf (sgX (w 10) (gN (w 10) 0 9))) (sgX (w 10) (gN (w 10) 0 9 + 1) - 48) (gN (w 10) 0 12 + 1), Or.inr (Or.inr (Or.inr (Or.inr (Or.inr (⟨(by unfold isD3; omega), (by first | assumption | omega), (by first | assumption | omega), (rfl)⟩))))), by rw [show wOf (sgX (w 10) (gN (w 10) 0 9)) = 0 from by unfold wOf; first | (rw [if_pos (by omega)]) | (rw [if_neg (by omega), if_pos (by omega)]) | (rw [if_neg (by omega), if_neg (by omega)])]; simp (decide := true) only [hvw39, hw39, hw35, hw14, hw10, hvw7, hw7, hvw3, hw3, up_up, up_s, gA_s, gA_sn, gN_sF, gA_sS, gN_sS, sA_st, sF_sF, sF_sS, sS_sS, arr_s, arr_n, arr_S, gA_aI, if_true, if_false, true_and, and_true, false_and, and_false, iIt0, iIt1, sS_c, Int.add_zero, sgX_9, sgX_10, sgX_12, sgX_F, sgX_0, num9, num9, grp9]; (try simp only [hz4, hz5, hz8, hz11, hz12, hz14, hz36, hz37])⟩) dX6_readsGroup_134
  · refine lv_iload_n hx hb dX6_readsGroup_12 rfl (lv_at hl 0 rfl) ?_
    refine r_bipush hx hb dX6_readsGroup_13 (by decide) ?_
    refine r_icmp_eq (tgt := 24) hx hb rz1 ⟨by omega, by omega⟩ dX6_readsGroup_15 (by decide) (fun c40 => ?_) (fun c40 => ?_)
    · refine r_iconst hx hb dX6_readsGroup_24 ?_
      refine lv_goto (tgt := 29) hx hb dX6_readsGroup_25 (by decide) ?_
      refine r_pI C0 hW (show 10 < 11 ∧ 0 < bs 10 from ⟨by decide, by decide⟩) rfl rfl hiX6 tyX6 tyX6_ok nmX6 (k := 10) (v := iI 1) (by decide) kf_X6_128 rfl rfl rfl (tyX6_ok 10 (by decide)) (iI_bool (by first | exact Or.inl rfl | exact Or.inr rfl | omega)) (iI_fitz (by first | exact Or.inl rfl | exact Or.inr rfl | omega)) (by simp) rfl dX6_readsGroup_29 (fun H1 locs1 hW => ?_)
      obtain ⟨w41, hw41⟩ : ∃ wq9 : gW, wq9 = up w 10 (sS (w 10) 0 10 (iI 1)) := ⟨_, rfl⟩
      rw [← hw41] at hW
      have hvw41 : (iI 1).toInt = 1 := iI_t ⟨by omega, by omega⟩
      refine lv_aload_n hx hb dX6_readsGroup_32 rfl (lv_at hl 1 rfl) ?_
      refine lv_dup hx hb dX6_readsGroup_33 rfl ?_
      refine r_gI C0 hW (show 10 < 11 ∧ 0 < bs 10 from ⟨by decide, by decide⟩) rfl rfl hiX6 (k := 9) (by decide) kf_X6_122 rfl rfl rfl dX6_readsGroup_34 (fun z42 (hz42 : z42 = gN (w41 10) 0 9) rz42 => ?_)
      have rz42a := rz42.1
      have rz42b := rz42.2
      try simp (decide := true) only [hvw41, hw41, up_s, gA_s, gA_sn, gN_sF, gA_sS, gN_sS, sA_st, sF_sF, sF_sS, sS_sS, arr_s, arr_n, arr_S, gA_aI, if_true, if_false, true_and, and_true, false_and, and_false, iIt0, iIt1, sS_c, Int.add_zero, sgX_9, sgX_10, sgX_12, sgX_F, sgX_0, num9] at hz42
      refine lv_aload_n hx hb dX6_readsGroup_37 rfl (lv_at hl 1 rfl) ?_
      refine r_gI C0 hW (show 10 < 11 ∧ 0 < bs 10 from ⟨by decide, by decide⟩) rfl rfl hiX6 (k := 10) (by decide) kf_X6_128 rfl rfl rfl dX6_readsGroup_38 (fun z43 (hz43 : z43 = gN (w41 10) 0 10) rz43 => ?_)
      have rz43a := rz43.1
      have rz43b := rz43.2
      try simp (decide := true) only [hvw41, hw41, up_s, gA_s, gA_sn, gN_sF, gA_sS, gN_sS, sA_st, sF_sF, sF_sS, sS_sS, arr_s, arr_n, arr_S, gA_aI, if_true, if_false, true_and, and_true, false_and, and_false, iIt0, iIt1, sS_c, Int.add_zero, sgX_9, sgX_10, sgX_12, sgX_F, sgX_0, num9] at hz43
      refine r_if_eq (tgt := 48) hx hb rz43 dX6_readsGroup_41 (by decide) (fun c44 => ?_) (fun c44 => ?_)
      · exfalso; omega
      · refine r_iconst hx hb dX6_readsGroup_44 ?_
        refine lv_goto (tgt := 49) hx hb dX6_readsGroup_45 (by decide) ?_
        refine r_iadd hx hb dX6_readsGroup_49 ?_
        refine r_pI C0 hW (show 10 < 11 ∧ 0 < bs 10 from ⟨by decide, by decide⟩) rfl rfl hiX6 tyX6 tyX6_ok nmX6 (k := 9) (v := iI (z42 + 1)) (by decide) kf_X6_122 rfl rfl rfl (tyX6_ok 9 (by decide)) rfl rfl (by simp) rfl dX6_readsGroup_50 (fun H1 locs1 hW => ?_)
        obtain ⟨w45, hw45⟩ : ∃ wq9 : gW, wq9 = up w41 10 (sS (w41 10) 0 9 (iI (z42 + 1))) := ⟨_, rfl⟩
        rw [← hw45] at hW
        have hvw45 : (iI (z42 + 1)).toInt = (z42 + 1) := iI_t ⟨by omega, by omega⟩
        refine lv_aload_n hx hb dX6_readsGroup_53 rfl (lv_at hl 1 rfl) ?_
        refine r_gR C0 hW (show 10 < 11 ∧ 0 < bs 10 from ⟨by decide, by decide⟩) rfl rfl hiX6 (k := 11) (by decide) kf_X6_25 rfl rfl rfl dX6_readsGroup_54 ?_
        refine r_iconst hx hb dX6_readsGroup_57 ?_
        refine lv_aload_n hx hb dX6_readsGroup_58 rfl (lv_at hl 1 rfl) ?_
        refine r_gI C0 hW (show 10 < 11 ∧ 0 < bs 10 from ⟨by decide, by decide⟩) rfl rfl hiX6 (k := 12) (by decide) kf_X6_110 rfl rfl rfl dX6_readsGroup_59 (fun z46 (hz46 : z46 = gN (w45 10) 0 12) rz46 => ?_)
        have rz46a := rz46.1
        have rz46b := rz46.2
        try simp (decide := true) only [hvw45, hw45, hvw41, hw41, up_s, gA_s, gA_sn, gN_sF, gA_sS, gN_sS, sA_st, sF_sF, sF_sS, sS_sS, arr_s, arr_n, arr_S, gA_aI, if_true, if_false, true_and, and_true, false_and, and_false, iIt0, iIt1, sS_c, Int.add_zero, sgX_9, sgX_10, sgX_12, sgX_F, sgX_0, num9] at hz46
        refine r_imul hx hb dX6_readsGroup_62 ?_
        refine lv_iload_n hx hb dX6_readsGroup_63 rfl (lv_at hl 0 rfl) ?_
        refine r_bipush hx hb dX6_readsGroup_64 (by decide) ?_
        refine r_icmp_ne (tgt := 73) hx hb rz1 ⟨by omega, by omega⟩ dX6_readsGroup_66 (by decide) (fun c47 => ?_) (fun c47 => ?_)
        · refine lv_iload_n hx hb dX6_readsGroup_73 rfl (lv_at hl 0 rfl) ?_
          refine r_bipush hx hb dX6_readsGroup_74 (by decide) ?_
          refine r_icmp_ne (tgt := 83) hx hb rz1 ⟨by omega, by omega⟩ dX6_readsGroup_76 (by decide) (fun c48 => ?_) (fun c48 => ?_)
          · exfalso; omega
          · refine r_iconst hx hb dX6_readsGroup_79 ?_
            refine lv_goto (tgt := 84) hx hb dX6_readsGroup_80 (by decide) ?_
            refine r_ist C0 hW (show 10 < 11 ∧ 6 < bs 10 from ⟨by decide, by decide⟩) (fun A => rfl) (n := 120) (v := iI 1) (by omega) (by omega) (by decide) dX6_readsGroup_84 (fun H1 locs1 hW => ?_)
            obtain ⟨w49, hw49⟩ : ∃ wq9 : gW, wq9 = up w45 10 (sA (w45 10) 6 (2 * z46) (iI 1)) := ⟨_, rfl⟩
            rw [← hw49] at hW
            refine lv_aload_n hx hb dX6_readsGroup_85 rfl (lv_at hl 1 rfl) ?_
            refine r_gR C0 hW (show 10 < 11 ∧ 0 < bs 10 from ⟨by decide, by decide⟩) rfl rfl hiX6 (k := 11) (by decide) kf_X6_25 rfl rfl rfl dX6_readsGroup_86 ?_
            refine r_iconst hx hb dX6_readsGroup_89 ?_
            refine lv_aload_n hx hb dX6_readsGroup_90 rfl (lv_at hl 1 rfl) ?_
            refine r_gI C0 hW (show 10 < 11 ∧ 0 < bs 10 from ⟨by decide, by decide⟩) rfl rfl hiX6 (k := 12) (by decide) kf_X6_110 rfl rfl rfl dX6_readsGroup_91 (fun z50 (hz50 : z50 = gN (w49 10) 0 12) rz50 => ?_)
            have rz50a := rz50.1
            have rz50b := rz50.2
            try simp (decide := true) only [hw49, hvw45, hw45, hvw41, hw41, up_s, gA_s, gA_sn, gN_sF, gA_sS, gN_sS, sA_st, sF_sF, sF_sS, sS_sS, arr_s, arr_n, arr_S, gA_aI, if_true, if_false, true_and, and_true, false_and, and_false, iIt0, iIt1, sS_c, Int.add_zero, sgX_9, sgX_10, sgX_12, sgX_F, sgX_0, num9] at hz50
            refine r_imul hx hb dX6_readsGroup_94 ?_
            refine r_iconst hx hb dX6_readsGroup_95 ?_
            refine r_iadd hx hb dX6_readsGroup_96 ?_
            refine lv_aload_n hx hb dX6_readsGroup_97 rfl (lv_at hl 1 rfl) ?_
            refine r_gI C0 hW (show 10 < 11 ∧ 0 < bs 10 from ⟨by decide, by decide⟩) rfl rfl hiX6 (k := 10) (by decide) kf_X6_128 rfl rfl rfl dX6_readsGroup_98 (fun z51 (hz51 : z51 = gN (w49 10) 0 10) rz51 => ?_)
            have rz51a := rz51.1
            have rz51b := rz51.2
            try simp (decide := true) only [hw49, hvw45, hw45, hvw41, hw41, up_s, gA_s, gA_sn, gN_sF, gA_sS, gN_sS, sA_st, sF_sF, sF_sS, sS_sS, arr_s, arr_n, arr_S, gA_aI, if_true, if_false, true_and, and_true, false_and, and_false, iIt0, iIt1, sS_c, Int.add_zero, sgX_9, sgX_10, sgX_12, sgX_F, sgX_0, num9] at hz51
            refine r_if_eq (tgt := 111) hx hb rz51 dX6_readsGroup_101 (by decide) (fun c52 => ?_) (fun c52 => ?_)
            · exfalso; omega
            · refine lv_aload_n hx hb dX6_readsGroup_104 rfl (lv_at hl 1 rfl) ?_
              refine k_Vi (j := 10) (k0 := 0) C0 hW (c_X6_number l G w49 (by first | omega | (simp (decide := true) only [hw49, hvw45, hw45, hvw41, hw41, up_s, gA_s, gA_sn, gN_sF, gA_sS, gN_sS, sA_st, sF_sF, sF_sS, sS_sS, arr_s, arr_n, arr_S, gA_aI, if_true, if_false, true_and, and_true, false_and, and_false, iIt0, iIt1, sS_c, Int.add_zero, sgX_9, sgX_10, sgX_12, sgX_F, sgX_0, num9]; omega))) km_X6_132 ki_X6_number ke_X6_number kn_X6 kc_X6_number rfl hdV_X6_number ⟨by decide, by decide⟩ (show 10 < 11 ∧ 0 < bs 10 from ⟨by decide, by decide⟩) rfl rfl rfl hl.1 rfl (Nat.le_of_ble_eq_true rfl) dX6_readsGroup_105 (fun z53 w53 H1 locs1 rz53 hp53 hW => ?_)
              rcases hp53 with ⟨cd53_0, hz53, hw53⟩ | ⟨cd53_0, hz53, hw53⟩ | ⟨cd53_0, cd53_1, hz53, hw53⟩ | ⟨cd53_0, cd53_1, hz53, hw53⟩ | ⟨cd53_0, cd53_1, hz53, hw53⟩
              · skip
                have rz53a := rz53.1
                have rz53b := rz53.2
                try simp (decide := true) only [hw49, hvw45, hw45, hvw41, hw41, up_s, gA_s, gA_sn, gN_sF, gA_sS, gN_sS, sA_st, sF_sF, sF_sS, sS_sS, arr_s, arr_n, arr_S, gA_aI, if_true, if_false, true_and, and_true, false_and, and_false, iIt0, iIt1, sS_c, Int.add_zero, sgX_9, sgX_10, sgX_12, sgX_F, sgX_0, num9] at cd53_0; (try simp only [hz42, hz43, hz46, hz50, hz51] at cd53_0)
                try simp (decide := true) only [hw49, hvw45, hw45, hvw41, hw41, up_s, gA_s, gA_sn, gN_sF, gA_sS, gN_sS, sA_st, sF_sF, sF_sS, sS_sS, arr_s, arr_n, arr_S, gA_aI, if_true, if_false, true_and, and_true, false_and, and_false, iIt0, iIt1, sS_c, Int.add_zero, sgX_9, sgX_10, sgX_12, sgX_F, sgX_0, num9] at hz53; (try simp only [hz42, hz43, hz46, hz50, hz51] at hz53)
                refine lv_goto (tgt := 112) hx hb dX6_readsGroup_108 (by decide) ?_
                refine r_ist C0 hW (show 10 < 11 ∧ 6 < bs 10 from ⟨by decide, by decide⟩) (fun A => rfl) (n := 120) (v := iI z53) (by omega) (by omega) (by decide) dX6_readsGroup_112 (fun H1 locs1 hW => ?_)
                obtain ⟨w54, hw54⟩ : ∃ wq9 : gW, wq9 = up w53 10 (sA (w53 10) 6 ((2 * z50) + 1) (iI z53)) := ⟨_, rfl⟩
                rw [← hw54] at hW
                refine lv_aload_n hx hb dX6_readsGroup_113 rfl (lv_at hl 1 rfl) ?_
                refine lv_dup hx hb dX6_readsGroup_114 rfl ?_
                refine r_gI C0 hW (show 10 < 11 ∧ 0 < bs 10 from ⟨by decide, by decide⟩) rfl rfl hiX6 (k := 12) (by decide) kf_X6_110 rfl rfl rfl dX6_readsGroup_115 (fun z55 (hz55 : z55 = gN (w54 10) 0 12) rz55 => ?_)
                have rz55a := rz55.1
                have rz55b := rz55.2
                try simp (decide := true) only [hw54, hw53, hw49, hvw45, hw45, hvw41, hw41, up_s, gA_s, gA_sn, gN_sF, gA_sS, gN_sS, sA_st, sF_sF, sF_sS, sS_sS, arr_s, arr_n, arr_S, gA_aI, if_true, if_false, true_and, and_true, false_and, and_false, iIt0, iIt1, sS_c, Int.add_zero, sgX_9, sgX_10, sgX_12, sgX_F, sgX_0, num9] at hz55
                refine lv_aload_n hx hb dX6_readsGroup_118 rfl (lv_at hl 1 rfl) ?_
                refine r_gI C0 hW (show 10 < 11 ∧ 0 < bs 10 from ⟨by decide, by decide⟩) rfl rfl hiX6 (k := 10) (by decide) kf_X6_128 rfl rfl rfl dX6_readsGroup_119 (fun z56 (hz56 : z56 = gN (w54 10) 0 10) rz56 => ?_)
                have rz56a := rz56.1
                have rz56b := rz56.2
                try simp (decide := true) only [hw54, hw53, hw49, hvw45, hw45, hvw41, hw41, up_s, gA_s, gA_sn, gN_sF, gA_sS, gN_sS, sA_st, sF_sF, sF_sS, sS_sS, arr_s, arr_n, arr_S, gA_aI, if_true, if_false, true_and, and_true, false_and, and_false, iIt0, iIt1, sS_c, Int.add_zero, sgX_9, sgX_10, sgX_12, sgX_F, sgX_0, num9] at hz56
                refine r_if_eq (tgt := 129) hx hb rz56 dX6_readsGroup_122 (by decide) (fun c57 => ?_) (fun c57 => ?_)
                · exfalso; omega
                · refine r_iconst hx hb dX6_readsGroup_125 ?_
                  refine lv_goto (tgt := 130) hx hb dX6_readsGroup_126 (by decide) ?_
                  refine r_iadd hx hb dX6_readsGroup_130 ?_
                  refine r_pI C0 hW (show 10 < 11 ∧ 0 < bs 10 from ⟨by decide, by decide⟩) rfl rfl hiX6 tyX6 tyX6_ok nmX6 (k := 12) (v := iI (z55 + 1)) (by decide) kf_X6_110 rfl rfl rfl (tyX6_ok 12 (by decide)) rfl rfl (by simp) rfl dX6_readsGroup_131 (fun H1 locs1 hW => ?_)
                  obtain ⟨w58, hw58⟩ : ∃ wq9 : gW, wq9 = up w54 10 (sS (w54 10) 0 12 (iI (z55 + 1))) := ⟨_, rfl⟩
                  rw [← hw58] at hW
                  have hvw58 : (iI (z55 + 1)).toInt = (z55 + 1) := iI_t ⟨by omega, by omega⟩
                  exact r_vret C0 hW (⟨grp9 (w 10) (gN (w 10) 0 9 + 1) 1 (wOf (sgX (w 10) (gN (w 10) 0 9))) (1) (gN (w 10) 0 12 + 1), Or.inr (Or.inl (⟨(by unfold isD3; omega), (by first | assumption | omega), (rfl)⟩)), by rw [show wOf (sgX (w 10) (gN (w 10) 0 9)) = 1 from by unfold wOf; first | (rw [if_pos (by omega)]) | (rw [if_neg (by omega), if_pos (by omega)]) | (rw [if_neg (by omega), if_neg (by omega)])]; simp (decide := true) only [hvw58, hw58, hw54, hw53, hw49, hvw45, hw45, hvw41, hw41, up_up, up_s, gA_s, gA_sn, gN_sF, gA_sS, gN_sS, sA_st, sF_sF, sF_sS, sS_sS, arr_s, arr_n, arr_S, gA_aI, if_true, if_false, true_and, and_true, false_and, and_false, iIt0, iIt1, sS_c, Int.add_zero, sgX_9, sgX_10, sgX_12, sgX_F, sgX_0, num9, num9, grp9]; (try simp only [hz42, hz43, hz46, hz50, hz51, hz53, hz55, hz56])⟩) dX6_readsGroup_134
              · skip
                have rz53a := rz53.1
                have rz53b := rz53.2
                try simp (decide := true) only [hw49, hvw45, hw45, hvw41, hw41, up_s, gA_s, gA_sn, gN_sF, gA_sS, gN_sS, sA_st, sF_sF, sF_sS, sS_sS, arr_s, arr_n, arr_S, gA_aI, if_true, if_false, true_and, and_true, false_and, and_false, iIt0, iIt1, sS_c, Int.add_zero, sgX_9, sgX_10, sgX_12, sgX_F, sgX_0, num9] at cd53_0; (try simp only [hz42, hz43, hz46, hz50, hz51] at cd53_0)
                try simp (decide := true) only [hw49, hvw45, hw45, hvw41, hw41, up_s, gA_s, gA_sn, gN_sF, gA_sS, gN_sS, sA_st, sF_sF, sF_sS, sS_sS, arr_s, arr_n, arr_S, gA_aI, if_true, if_false, true_and, and_true, false_and, and_false, iIt0, iIt1, sS_c, Int.add_zero, sgX_9, sgX_10, sgX_12, sgX_F, sgX_0, num9] at hz53; (try simp only [hz42, hz43, hz46, hz50, hz51] at hz53)
                refine lv_goto (tgt := 112) hx hb dX6_readsGroup_108 (by decide) ?_
                refine r_ist C0 hW (show 10 < 11 ∧ 6 < bs 10 from ⟨by decide, by decide⟩) (fun A => rfl) (n := 120) (v := iI z53) (by omega) (by omega) (by decide) dX6_readsGroup_112 (fun H1 locs1 hW => ?_)
                obtain ⟨w59, hw59⟩ : ∃ wq9 : gW, wq9 = up w53 10 (sA (w53 10) 6 ((2 * z50) + 1) (iI z53)) := ⟨_, rfl⟩
                rw [← hw59] at hW
                refine lv_aload_n hx hb dX6_readsGroup_113 rfl (lv_at hl 1 rfl) ?_
                refine lv_dup hx hb dX6_readsGroup_114 rfl ?_
                refine r_gI C0 hW (show 10 < 11 ∧ 0 < bs 10 from ⟨by decide, by decide⟩) rfl rfl hiX6 (k := 12) (by decide) kf_X6_110 rfl rfl rfl dX6_readsGroup_115 (fun z60 (hz60 : z60 = gN (w59 10) 0 12) rz60 => ?_)
                have rz60a := rz60.1
                have rz60b := rz60.2
                try simp (decide := true) only [hw59, hw53, hw49, hvw45, hw45, hvw41, hw41, up_s, gA_s, gA_sn, gN_sF, gA_sS, gN_sS, sA_st, sF_sF, sF_sS, sS_sS, arr_s, arr_n, arr_S, gA_aI, if_true, if_false, true_and, and_true, false_and, and_false, iIt0, iIt1, sS_c, Int.add_zero, sgX_9, sgX_10, sgX_12, sgX_F, sgX_0, num9] at hz60
                refine lv_aload_n hx hb dX6_readsGroup_118 rfl (lv_at hl 1 rfl) ?_
                refine r_gI C0 hW (show 10 < 11 ∧ 0 < bs 10 from ⟨by decide, by decide⟩) rfl rfl hiX6 (k := 10) (by decide) kf_X6_128 rfl rfl rfl dX6_readsGroup_119 (fun z61 (hz61 : z61 = gN (w59 10) 0 10) rz61 => ?_)
                have rz61a := rz61.1
                have rz61b := rz61.2
                try simp (decide := true) only [hw59, hw53, hw49, hvw45, hw45, hvw41, hw41, up_s, gA_s, gA_sn, gN_sF, gA_sS, gN_sS, sA_st, sF_sF, sF_sS, sS_sS, arr_s, arr_n, arr_S, gA_aI, if_true, if_false, true_and, and_true, false_and, and_false, iIt0, iIt1, sS_c, Int.add_zero, sgX_9, sgX_10, sgX_12, sgX_F, sgX_0, num9] at hz61
                refine r_if_eq (tgt := 129) hx hb rz61 dX6_readsGroup_122 (by decide) (fun c62 => ?_) (fun c62 => ?_)
                · refine r_iconst hx hb dX6_readsGroup_129 ?_
                  refine r_iadd hx hb dX6_readsGroup_130 ?_
                  refine r_pI C0 hW (show 10 < 11 ∧ 0 < bs 10 from ⟨by decide, by decide⟩) rfl rfl hiX6 tyX6 tyX6_ok nmX6 (k := 12) (v := iI (z60 + 0)) (by decide) kf_X6_110 rfl rfl rfl (tyX6_ok 12 (by decide)) rfl rfl (by simp) rfl dX6_readsGroup_131 (fun H1 locs1 hW => ?_)
                  obtain ⟨w63, hw63⟩ : ∃ wq9 : gW, wq9 = up w59 10 (sS (w59 10) 0 12 (iI (z60 + 0))) := ⟨_, rfl⟩
                  rw [← hw63] at hW
                  have hvw63 : (iI (z60 + 0)).toInt = (z60 + 0) := iI_t ⟨by omega, by omega⟩
                  exact r_vret C0 hW (⟨grp9 (w 10) (gN (w 10) 0 9 + 1) 0 (wOf (sgX (w 10) (gN (w 10) 0 9))) (0) (gN (w 10) 0 12), Or.inr (Or.inr (Or.inl (⟨(by unfold isD3; omega), (by first | assumption | omega), (rfl)⟩))), by rw [show wOf (sgX (w 10) (gN (w 10) 0 9)) = 1 from by unfold wOf; first | (rw [if_pos (by omega)]) | (rw [if_neg (by omega), if_pos (by omega)]) | (rw [if_neg (by omega), if_neg (by omega)])]; simp (decide := true) only [hvw63, hw63, hw59, hw53, hw49, hvw45, hw45, hvw41, hw41, up_up, up_s, gA_s, gA_sn, gN_sF, gA_sS, gN_sS, sA_st, sF_sF, sF_sS, sS_sS, arr_s, arr_n, arr_S, gA_aI, if_true, if_false, true_and, and_true, false_and, and_false, iIt0, iIt1, sS_c, Int.add_zero, sgX_9, sgX_10, sgX_12, sgX_F, sgX_0, num9, num9, grp9]; (try simp only [hz42, hz43, hz46, hz50, hz51, hz53, hz60, hz61])⟩) dX6_readsGroup_134
                · exfalso; omega
              · skip
                have rz53a := rz53.1
                have rz53b := rz53.2
                try simp (decide := true) only [hw49, hvw45, hw45, hvw41, hw41, up_s, gA_s, gA_sn, gN_sF, gA_sS, gN_sS, sA_st, sF_sF, sF_sS, sS_sS, arr_s, arr_n, arr_S, gA_aI, if_true, if_false, true_and, and_true, false_and, and_false, iIt0, iIt1, sS_c, Int.add_zero, sgX_9, sgX_10, sgX_12, sgX_F, sgX_0, num9] at cd53_0; (try simp only [hz42, hz43, hz46, hz50, hz51] at cd53_0)
                try simp (decide := true) only [hw49, hvw45, hw45, hvw41, hw41, up_s, gA_s, gA_sn, gN_sF, gA_sS, gN_sS, sA_st, sF_sF, sF_sS, sS_sS, arr_s, arr_n, arr_S, gA_aI, if_true, if_false, true_and, and_true, false_and, and_false, iIt0, iIt1, sS_c, Int.add_zero, sgX_9, sgX_10, sgX_12, sgX_F, sgX_0, num9] at cd53_1; (try simp only [hz42, hz43, hz46, hz50, hz51] at cd53_1)
                try simp (decide := true) only [hw49, hvw45, hw45, hvw41, hw41, up_s, gA_s, gA_sn, gN_sF, gA_sS, gN_sS, sA_st, sF_sF, sF_sS, sS_sS, arr_s, arr_n, arr_S, gA_aI, if_true, if_false, true_and, and_true, false_and, and_false, iIt0, iIt1, sS_c, Int.add_zero, sgX_9, sgX_10, sgX_12, sgX_F, sgX_0, num9] at hz53; (try simp only [hz42, hz43, hz46, hz50, hz51] at hz53)
                refine lv_goto (tgt := 112) hx hb dX6_readsGroup_108 (by decide) ?_
                refine r_ist C0 hW (show 10 < 11 ∧ 6 < bs 10 from ⟨by decide, by decide⟩) (fun A => rfl) (n := 120) (v := iI z53) (by omega) (by omega) (by decide) dX6_readsGroup_112 (fun H1 locs1 hW => ?_)
                obtain ⟨w64, hw64⟩ : ∃ wq9 : gW, wq9 = up w53 10 (sA (w53 10) 6 ((2 * z50) + 1) (iI z53)) := ⟨_, rfl⟩
                rw [← hw64] at hW
                refine lv_aload_n hx hb dX6_readsGroup_113 rfl (lv_at hl 1 rfl) ?_
                refine lv_dup hx hb dX6_readsGroup_114 rfl ?_
                refine r_gI C0 hW (show 10 < 11 ∧ 0 < bs 10 from ⟨by decide, by decide⟩) rfl rfl hiX6 (k := 12) (by decide) kf_X6_110 rfl rfl rfl dX6_readsGroup_115 (fun z65 (hz65 : z65 = gN (w64 10) 0 12) rz65 => ?_)
                have rz65a := rz65.1
                have rz65b := rz65.2
                try simp (decide := true) only [hw64, hw53, hw49, hvw45, hw45, hvw41, hw41, up_s, gA_s, gA_sn, gN_sF, gA_sS, gN_sS, sA_st, sF_sF, sF_sS, sS_sS, arr_s, arr_n, arr_S, gA_aI, if_true, if_false, true_and, and_true, false_and, and_false, iIt0, iIt1, sS_c, Int.add_zero, sgX_9, sgX_10, sgX_12, sgX_F, sgX_0, num9] at hz65
                refine lv_aload_n hx hb dX6_readsGroup_118 rfl (lv_at hl 1 rfl) ?_
                refine r_gI C0 hW (show 10 < 11 ∧ 0 < bs 10 from ⟨by decide, by decide⟩) rfl rfl hiX6 (k := 10) (by decide) kf_X6_128 rfl rfl rfl dX6_readsGroup_119 (fun z66 (hz66 : z66 = gN (w64 10) 0 10) rz66 => ?_)
                have rz66a := rz66.1
                have rz66b := rz66.2
                try simp (decide := true) only [hw64, hw53, hw49, hvw45, hw45, hvw41, hw41, up_s, gA_s, gA_sn, gN_sF, gA_sS, gN_sS, sA_st, sF_sF, sF_sS, sS_sS, arr_s, arr_n, arr_S, gA_aI, if_true, if_false, true_and, and_true, false_and, and_false, iIt0, iIt1, sS_c, Int.add_zero, sgX_9, sgX_10, sgX_12, sgX_F, sgX_0, num9] at hz66
                refine r_if_eq (tgt := 129) hx hb rz66 dX6_readsGroup_122 (by decide) (fun c67 => ?_) (fun c67 => ?_)
                · exfalso; omega
                · refine r_iconst hx hb dX6_readsGroup_125 ?_
                  refine lv_goto (tgt := 130) hx hb dX6_readsGroup_126 (by decide) ?_
                  refine r_iadd hx hb dX6_readsGroup_130 ?_
                  refine r_pI C0 hW (show 10 < 11 ∧ 0 < bs 10 from ⟨by decide, by decide⟩) rfl rfl hiX6 tyX6 tyX6_ok nmX6 (k := 12) (v := iI (z65 + 1)) (by decide) kf_X6_110 rfl rfl rfl (tyX6_ok 12 (by decide)) rfl rfl (by simp) rfl dX6_readsGroup_131 (fun H1 locs1 hW => ?_)
                  obtain ⟨w68, hw68⟩ : ∃ wq9 : gW, wq9 = up w64 10 (sS (w64 10) 0 12 (iI (z65 + 1))) := ⟨_, rfl⟩
                  rw [← hw68] at hW
                  have hvw68 : (iI (z65 + 1)).toInt = (z65 + 1) := iI_t ⟨by omega, by omega⟩
                  exact r_vret C0 hW (⟨grp9 (w 10) (gN (w 10) 0 9 + 1 + 1 + 1) 1 (wOf (sgX (w 10) (gN (w 10) 0 9))) (10 * (sgX (w 10) (gN (w 10) 0 9 + 1) - 48) + sgX (w 10) (gN (w 10) 0 9 + 1 + 1) - 48) (gN (w 10) 0 12 + 1), Or.inr (Or.inr (Or.inr (Or.inl (⟨(by unfold isD3; omega), (by first | assumption | omega), (by first | assumption | omega), (rfl)⟩)))), by rw [show wOf (sgX (w 10) (gN (w 10) 0 9)) = 1 from by unfold wOf; first | (rw [if_pos (by omega)]) | (rw [if_neg (by omega), if_pos (by omega)]) | (rw [if_neg (by omega), if_neg (by omega)])]; simp (decide := true) only [hvw68, hw68, hw64, hw53, hw49, hvw45, hw45, hvw41, hw41, up_up, up_s, gA_s, gA_sn, gN_sF, gA_sS, gN_sS, sA_st, sF_sF, sF_sS, sS_sS, arr_s, arr_n, arr_S, gA_aI, if_true, if_false, true_and, and_true, false_and, and_false, iIt0, iIt1, sS_c, Int.add_zero, sgX_9, sgX_10, sgX_12, sgX_F, sgX_0, num9, num9, grp9]; (try simp only [hz42, hz43, hz46, hz50, hz51, hz53, hz65, hz66])⟩) dX6_readsGroup_134
              · skip
                have rz53a := rz53.1
                have rz53b := rz53.2
                try simp (decide := true) only [hw49, hvw45, hw45, hvw41, hw41, up_s, gA_s, gA_sn, gN_sF, gA_sS, gN_sS, sA_st, sF_sF, sF_sS, sS_sS, arr_s, arr_n, arr_S, gA_aI, if_true, if_false, true_and, and_true, false_and, and_false, iIt0, iIt1, sS_c, Int.add_zero, sgX_9, sgX_10, sgX_12, sgX_F, sgX_0, num9] at cd53_0; (try simp only [hz42, hz43, hz46, hz50, hz51] at cd53_0)
                try simp (decide := true) only [hw49, hvw45, hw45, hvw41, hw41, up_s, gA_s, gA_sn, gN_sF, gA_sS, gN_sS, sA_st, sF_sF, sF_sS, sS_sS, arr_s, arr_n, arr_S, gA_aI, if_true, if_false, true_and, and_true, false_and, and_false, iIt0, iIt1, sS_c, Int.add_zero, sgX_9, sgX_10, sgX_12, sgX_F, sgX_0, num9] at cd53_1; (try simp only [hz42, hz43, hz46, hz50, hz51] at cd53_1)
                try simp (decide := true) only [hw49, hvw45, hw45, hvw41, hw41, up_s, gA_s, gA_sn, gN_sF, gA_sS, gN_sS, sA_st, sF_sF, sF_sS, sS_sS, arr_s, arr_n, arr_S, gA_aI, if_true, if_false, true_and, and_true, false_and, and_false, iIt0, iIt1, sS_c, Int.add_zero, sgX_9, sgX_10, sgX_12, sgX_F, sgX_0, num9] at hz53; (try simp only [hz42, hz43, hz46, hz50, hz51] at hz53)
                refine lv_goto (tgt := 112) hx hb dX6_readsGroup_108 (by decide) ?_
                refine r_ist C0 hW (show 10 < 11 ∧ 6 < bs 10 from ⟨by decide, by decide⟩) (fun A => rfl) (n := 120) (v := iI z53) (by omega) (by omega) (by decide) dX6_readsGroup_112 (fun H1 locs1 hW => ?_)
                obtain ⟨w69, hw69⟩ : ∃ wq9 : gW, wq9 = up w53 10 (sA (w53 10) 6 ((2 * z50) + 1) (iI z53)) := ⟨_, rfl⟩
                rw [← hw69] at hW
                refine lv_aload_n hx hb dX6_readsGroup_113 rfl (lv_at hl 1 rfl) ?_
                refine lv_dup hx hb dX6_readsGroup_114 rfl ?_
                refine r_gI C0 hW (show 10 < 11 ∧ 0 < bs 10 from ⟨by decide, by decide⟩) rfl rfl hiX6 (k := 12) (by decide) kf_X6_110 rfl rfl rfl dX6_readsGroup_115 (fun z70 (hz70 : z70 = gN (w69 10) 0 12) rz70 => ?_)
                have rz70a := rz70.1
                have rz70b := rz70.2
                try simp (decide := true) only [hw69, hw53, hw49, hvw45, hw45, hvw41, hw41, up_s, gA_s, gA_sn, gN_sF, gA_sS, gN_sS, sA_st, sF_sF, sF_sS, sS_sS, arr_s, arr_n, arr_S, gA_aI, if_true, if_false, true_and, and_true, false_and, and_false, iIt0, iIt1, sS_c, Int.add_zero, sgX_9, sgX_10, sgX_12, sgX_F, sgX_0, num9] at hz70
                refine lv_aload_n hx hb dX6_readsGroup_118 rfl (lv_at hl 1 rfl) ?_
                refine r_gI C0 hW (show 10 < 11 ∧ 0 < bs 10 from ⟨by decide, by decide⟩) rfl rfl hiX6 (k := 10) (by decide) kf_X6_128 rfl rfl rfl dX6_readsGroup_119 (fun z71 (hz71 : z71 = gN (w69 10) 0 10) rz71 => ?_)
                have rz71a := rz71.1
                have rz71b := rz71.2
                try simp (decide := true) only [hw69, hw53, hw49, hvw45, hw45, hvw41, hw41, up_s, gA_s, gA_sn, gN_sF, gA_sS, gN_sS, sA_st, sF_sF, sF_sS, sS_sS, arr_s, arr_n, arr_S, gA_aI, if_true, if_false, true_and, and_true, false_and, and_false, iIt0, iIt1, sS_c, Int.add_zero, sgX_9, sgX_10, sgX_12, sgX_F, sgX_0, num9] at hz71
                refine r_if_eq (tgt := 129) hx hb rz71 dX6_readsGroup_122 (by decide) (fun c72 => ?_) (fun c72 => ?_)
                · refine r_iconst hx hb dX6_readsGroup_129 ?_
                  refine r_iadd hx hb dX6_readsGroup_130 ?_
                  refine r_pI C0 hW (show 10 < 11 ∧ 0 < bs 10 from ⟨by decide, by decide⟩) rfl rfl hiX6 tyX6 tyX6_ok nmX6 (k := 12) (v := iI (z70 + 0)) (by decide) kf_X6_110 rfl rfl rfl (tyX6_ok 12 (by decide)) rfl rfl (by simp) rfl dX6_readsGroup_131 (fun H1 locs1 hW => ?_)
                  obtain ⟨w73, hw73⟩ : ∃ wq9 : gW, wq9 = up w69 10 (sS (w69 10) 0 12 (iI (z70 + 0))) := ⟨_, rfl⟩
                  rw [← hw73] at hW
                  have hvw73 : (iI (z70 + 0)).toInt = (z70 + 0) := iI_t ⟨by omega, by omega⟩
                  exact r_vret C0 hW (⟨grp9 (w 10) (gN (w 10) 0 9 + 1 + 1) 0 (wOf (sgX (w 10) (gN (w 10) 0 9))) (1) (gN (w 10) 0 12), Or.inr (Or.inr (Or.inr (Or.inr (Or.inl (⟨(by unfold isD3; omega), (by first | assumption | omega), (by first | assumption | omega), (rfl)⟩))))), by rw [show wOf (sgX (w 10) (gN (w 10) 0 9)) = 1 from by unfold wOf; first | (rw [if_pos (by omega)]) | (rw [if_neg (by omega), if_pos (by omega)]) | (rw [if_neg (by omega), if_neg (by omega)])]; simp (decide := true) only [hvw73, hw73, hw69, hw53, hw49, hvw45, hw45, hvw41, hw41, up_up, up_s, gA_s, gA_sn, gN_sF, gA_sS, gN_sS, sA_st, sF_sF, sF_sS, sS_sS, arr_s, arr_n, arr_S, gA_aI, if_true, if_false, true_and, and_true, false_and, and_false, iIt0, iIt1, sS_c, Int.add_zero, sgX_9, sgX_10, sgX_12, sgX_F, sgX_0, num9, num9, grp9]; (try simp only [hz42, hz43, hz46, hz50, hz51, hz53, hz70, hz71])⟩) dX6_readsGroup_134
                · exfalso; omega
              · skip
                have rz53a := rz53.1
                have rz53b := rz53.2
                try simp (decide := true) only [hw49, hvw45, hw45, hvw41, hw41, up_s, gA_s, gA_sn, gN_sF, gA_sS, gN_sS, sA_st, sF_sF, sF_sS, sS_sS, arr_s, arr_n, arr_S, gA_aI, if_true, if_false, true_and, and_true, false_and, and_false, iIt0, iIt1, sS_c, Int.add_zero, sgX_9, sgX_10, sgX_12, sgX_F, sgX_0, num9] at cd53_0; (try simp only [hz42, hz43, hz46, hz50, hz51] at cd53_0)
                try simp (decide := true) only [hw49, hvw45, hw45, hvw41, hw41, up_s, gA_s, gA_sn, gN_sF, gA_sS, gN_sS, sA_st, sF_sF, sF_sS, sS_sS, arr_s, arr_n, arr_S, gA_aI, if_true, if_false, true_and, and_true, false_and, and_false, iIt0, iIt1, sS_c, Int.add_zero, sgX_9, sgX_10, sgX_12, sgX_F, sgX_0, num9] at cd53_1; (try simp only [hz42, hz43, hz46, hz50, hz51] at cd53_1)
                try simp (decide := true) only [hw49, hvw45, hw45, hvw41, hw41, up_s, gA_s, gA_sn, gN_sF, gA_sS, gN_sS, sA_st, sF_sF, sF_sS, sS_sS, arr_s, arr_n, arr_S, gA_aI, if_true, if_false, true_and, and_true, false_and, and_false, iIt0, iIt1, sS_c, Int.add_zero, sgX_9, sgX_10, sgX_12, sgX_F, sgX_0, num9] at hz53; (try simp only [hz42, hz43, hz46, hz50, hz51] at hz53)
                refine lv_goto (tgt := 112) hx hb dX6_readsGroup_108 (by decide) ?_
                refine r_ist C0 hW (show 10 < 11 ∧ 6 < bs 10 from ⟨by decide, by decide⟩) (fun A => rfl) (n := 120) (v := iI z53) (by omega) (by omega) (by decide) dX6_readsGroup_112 (fun H1 locs1 hW => ?_)
                obtain ⟨w74, hw74⟩ : ∃ wq9 : gW, wq9 = up w53 10 (sA (w53 10) 6 ((2 * z50) + 1) (iI z53)) := ⟨_, rfl⟩
                rw [← hw74] at hW
                refine lv_aload_n hx hb dX6_readsGroup_113 rfl (lv_at hl 1 rfl) ?_
                refine lv_dup hx hb dX6_readsGroup_114 rfl ?_
                refine r_gI C0 hW (show 10 < 11 ∧ 0 < bs 10 from ⟨by decide, by decide⟩) rfl rfl hiX6 (k := 12) (by decide) kf_X6_110 rfl rfl rfl dX6_readsGroup_115 (fun z75 (hz75 : z75 = gN (w74 10) 0 12) rz75 => ?_)
                have rz75a := rz75.1
                have rz75b := rz75.2
                try simp (decide := true) only [hw74, hw53, hw49, hvw45, hw45, hvw41, hw41, up_s, gA_s, gA_sn, gN_sF, gA_sS, gN_sS, sA_st, sF_sF, sF_sS, sS_sS, arr_s, arr_n, arr_S, gA_aI, if_true, if_false, true_and, and_true, false_and, and_false, iIt0, iIt1, sS_c, Int.add_zero, sgX_9, sgX_10, sgX_12, sgX_F, sgX_0, num9] at hz75
                refine lv_aload_n hx hb dX6_readsGroup_118 rfl (lv_at hl 1 rfl) ?_
                refine r_gI C0 hW (show 10 < 11 ∧ 0 < bs 10 from ⟨by decide, by decide⟩) rfl rfl hiX6 (k := 10) (by decide) kf_X6_128 rfl rfl rfl dX6_readsGroup_119 (fun z76 (hz76 : z76 = gN (w74 10) 0 10) rz76 => ?_)
                have rz76a := rz76.1
                have rz76b := rz76.2
                try simp (decide := true) only [hw74, hw53, hw49, hvw45, hw45, hvw41, hw41, up_s, gA_s, gA_sn, gN_sF, gA_sS, gN_sS, sA_st, sF_sF, sF_sS, sS_sS, arr_s, arr_n, arr_S, gA_aI, if_true, if_false, true_and, and_true, false_and, and_false, iIt0, iIt1, sS_c, Int.add_zero, sgX_9, sgX_10, sgX_12, sgX_F, sgX_0, num9] at hz76
                refine r_if_eq (tgt := 129) hx hb rz76 dX6_readsGroup_122 (by decide) (fun c77 => ?_) (fun c77 => ?_)
                · exfalso; omega
                · refine r_iconst hx hb dX6_readsGroup_125 ?_
                  refine lv_goto (tgt := 130) hx hb dX6_readsGroup_126 (by decide) ?_
                  refine r_iadd hx hb dX6_readsGroup_130 ?_
                  refine r_pI C0 hW (show 10 < 11 ∧ 0 < bs 10 from ⟨by decide, by decide⟩) rfl rfl hiX6 tyX6 tyX6_ok nmX6 (k := 12) (v := iI (z75 + 1)) (by decide) kf_X6_110 rfl rfl rfl (tyX6_ok 12 (by decide)) rfl rfl (by simp) rfl dX6_readsGroup_131 (fun H1 locs1 hW => ?_)
                  obtain ⟨w78, hw78⟩ : ∃ wq9 : gW, wq9 = up w74 10 (sS (w74 10) 0 12 (iI (z75 + 1))) := ⟨_, rfl⟩
                  rw [← hw78] at hW
                  have hvw78 : (iI (z75 + 1)).toInt = (z75 + 1) := iI_t ⟨by omega, by omega⟩
                  exact r_vret C0 hW (⟨grp9 (w 10) (gN (w 10) 0 9 + 1 + 1) 1 (wOf (sgX (w 10) (gN (w 10) 0 9))) (sgX (w 10) (gN (w 10) 0 9 + 1) - 48) (gN (w 10) 0 12 + 1), Or.inr (Or.inr (Or.inr (Or.inr (Or.inr (⟨(by unfold isD3; omega), (by first | assumption | omega), (by first | assumption | omega), (rfl)⟩))))), by rw [show wOf (sgX (w 10) (gN (w 10) 0 9)) = 1 from by unfold wOf; first | (rw [if_pos (by omega)]) | (rw [if_neg (by omega), if_pos (by omega)]) | (rw [if_neg (by omega), if_neg (by omega)])]; simp (decide := true) only [hvw78, hw78, hw74, hw53, hw49, hvw45, hw45, hvw41, hw41, up_up, up_s, gA_s, gA_sn, gN_sF, gA_sS, gN_sS, sA_st, sF_sF, sF_sS, sS_sS, arr_s, arr_n, arr_S, gA_aI, if_true, if_false, true_and, and_true, false_and, and_false, iIt0, iIt1, sS_c, Int.add_zero, sgX_9, sgX_10, sgX_12, sgX_F, sgX_0, num9, num9, grp9]; (try simp only [hz42, hz43, hz46, hz50, hz51, hz53, hz75, hz76])⟩) dX6_readsGroup_134
        · exfalso; omega
    · refine lv_iload_n hx hb dX6_readsGroup_18 rfl (lv_at hl 0 rfl) ?_
      refine r_bipush hx hb dX6_readsGroup_19 (by decide) ?_
      refine r_icmp_ne (tgt := 28) hx hb rz1 ⟨by omega, by omega⟩ dX6_readsGroup_21 (by decide) (fun c79 => ?_) (fun c79 => ?_)
      · refine r_iconst hx hb dX6_readsGroup_28 ?_
        refine r_pI C0 hW (show 10 < 11 ∧ 0 < bs 10 from ⟨by decide, by decide⟩) rfl rfl hiX6 tyX6 tyX6_ok nmX6 (k := 10) (v := iI 0) (by decide) kf_X6_128 rfl rfl rfl (tyX6_ok 10 (by decide)) (iI_bool (by first | exact Or.inl rfl | exact Or.inr rfl | omega)) (iI_fitz (by first | exact Or.inl rfl | exact Or.inr rfl | omega)) (by simp) rfl dX6_readsGroup_29 (fun H1 locs1 hW => ?_)
        obtain ⟨w80, hw80⟩ : ∃ wq9 : gW, wq9 = up w 10 (sS (w 10) 0 10 (iI 0)) := ⟨_, rfl⟩
        rw [← hw80] at hW
        have hvw80 : (iI 0).toInt = 0 := iI_t ⟨by omega, by omega⟩
        refine lv_aload_n hx hb dX6_readsGroup_32 rfl (lv_at hl 1 rfl) ?_
        refine lv_dup hx hb dX6_readsGroup_33 rfl ?_
        refine r_gI C0 hW (show 10 < 11 ∧ 0 < bs 10 from ⟨by decide, by decide⟩) rfl rfl hiX6 (k := 9) (by decide) kf_X6_122 rfl rfl rfl dX6_readsGroup_34 (fun z81 (hz81 : z81 = gN (w80 10) 0 9) rz81 => ?_)
        have rz81a := rz81.1
        have rz81b := rz81.2
        try simp (decide := true) only [hvw80, hw80, up_s, gA_s, gA_sn, gN_sF, gA_sS, gN_sS, sA_st, sF_sF, sF_sS, sS_sS, arr_s, arr_n, arr_S, gA_aI, if_true, if_false, true_and, and_true, false_and, and_false, iIt0, iIt1, sS_c, Int.add_zero, sgX_9, sgX_10, sgX_12, sgX_F, sgX_0, num9] at hz81
        refine lv_aload_n hx hb dX6_readsGroup_37 rfl (lv_at hl 1 rfl) ?_
        refine r_gI C0 hW (show 10 < 11 ∧ 0 < bs 10 from ⟨by decide, by decide⟩) rfl rfl hiX6 (k := 10) (by decide) kf_X6_128 rfl rfl rfl dX6_readsGroup_38 (fun z82 (hz82 : z82 = gN (w80 10) 0 10) rz82 => ?_)
        have rz82a := rz82.1
        have rz82b := rz82.2
        try simp (decide := true) only [hvw80, hw80, up_s, gA_s, gA_sn, gN_sF, gA_sS, gN_sS, sA_st, sF_sF, sF_sS, sS_sS, arr_s, arr_n, arr_S, gA_aI, if_true, if_false, true_and, and_true, false_and, and_false, iIt0, iIt1, sS_c, Int.add_zero, sgX_9, sgX_10, sgX_12, sgX_F, sgX_0, num9] at hz82
        refine r_if_eq (tgt := 48) hx hb rz82 dX6_readsGroup_41 (by decide) (fun c83 => ?_) (fun c83 => ?_)
        · refine r_iconst hx hb dX6_readsGroup_48 ?_
          refine r_iadd hx hb dX6_readsGroup_49 ?_
          refine r_pI C0 hW (show 10 < 11 ∧ 0 < bs 10 from ⟨by decide, by decide⟩) rfl rfl hiX6 tyX6 tyX6_ok nmX6 (k := 9) (v := iI (z81 + 0)) (by decide) kf_X6_122 rfl rfl rfl (tyX6_ok 9 (by decide)) rfl rfl (by simp) rfl dX6_readsGroup_50 (fun H1 locs1 hW => ?_)
          obtain ⟨w84, hw84⟩ : ∃ wq9 : gW, wq9 = up w80 10 (sS (w80 10) 0 9 (iI (z81 + 0))) := ⟨_, rfl⟩
          rw [← hw84] at hW
          have hvw84 : (iI (z81 + 0)).toInt = (z81 + 0) := iI_t ⟨by omega, by omega⟩
          refine lv_aload_n hx hb dX6_readsGroup_53 rfl (lv_at hl 1 rfl) ?_
          refine r_gR C0 hW (show 10 < 11 ∧ 0 < bs 10 from ⟨by decide, by decide⟩) rfl rfl hiX6 (k := 11) (by decide) kf_X6_25 rfl rfl rfl dX6_readsGroup_54 ?_
          refine r_iconst hx hb dX6_readsGroup_57 ?_
          refine lv_aload_n hx hb dX6_readsGroup_58 rfl (lv_at hl 1 rfl) ?_
          refine r_gI C0 hW (show 10 < 11 ∧ 0 < bs 10 from ⟨by decide, by decide⟩) rfl rfl hiX6 (k := 12) (by decide) kf_X6_110 rfl rfl rfl dX6_readsGroup_59 (fun z85 (hz85 : z85 = gN (w84 10) 0 12) rz85 => ?_)
          have rz85a := rz85.1
          have rz85b := rz85.2
          try simp (decide := true) only [hvw84, hw84, hvw80, hw80, up_s, gA_s, gA_sn, gN_sF, gA_sS, gN_sS, sA_st, sF_sF, sF_sS, sS_sS, arr_s, arr_n, arr_S, gA_aI, if_true, if_false, true_and, and_true, false_and, and_false, iIt0, iIt1, sS_c, Int.add_zero, sgX_9, sgX_10, sgX_12, sgX_F, sgX_0, num9] at hz85
          refine r_imul hx hb dX6_readsGroup_62 ?_
          refine lv_iload_n hx hb dX6_readsGroup_63 rfl (lv_at hl 0 rfl) ?_
          refine r_bipush hx hb dX6_readsGroup_64 (by decide) ?_
          refine r_icmp_ne (tgt := 73) hx hb rz1 ⟨by omega, by omega⟩ dX6_readsGroup_66 (by decide) (fun c86 => ?_) (fun c86 => ?_)
          · refine lv_iload_n hx hb dX6_readsGroup_73 rfl (lv_at hl 0 rfl) ?_
            refine r_bipush hx hb dX6_readsGroup_74 (by decide) ?_
            refine r_icmp_ne (tgt := 83) hx hb rz1 ⟨by omega, by omega⟩ dX6_readsGroup_76 (by decide) (fun c87 => ?_) (fun c87 => ?_)
            · refine r_iconst hx hb dX6_readsGroup_83 ?_
              refine r_ist C0 hW (show 10 < 11 ∧ 6 < bs 10 from ⟨by decide, by decide⟩) (fun A => rfl) (n := 120) (v := iI 2) (by omega) (by omega) (by decide) dX6_readsGroup_84 (fun H1 locs1 hW => ?_)
              obtain ⟨w88, hw88⟩ : ∃ wq9 : gW, wq9 = up w84 10 (sA (w84 10) 6 (2 * z85) (iI 2)) := ⟨_, rfl⟩
              rw [← hw88] at hW
              refine lv_aload_n hx hb dX6_readsGroup_85 rfl (lv_at hl 1 rfl) ?_
              refine r_gR C0 hW (show 10 < 11 ∧ 0 < bs 10 from ⟨by decide, by decide⟩) rfl rfl hiX6 (k := 11) (by decide) kf_X6_25 rfl rfl rfl dX6_readsGroup_86 ?_
              refine r_iconst hx hb dX6_readsGroup_89 ?_
              refine lv_aload_n hx hb dX6_readsGroup_90 rfl (lv_at hl 1 rfl) ?_
              refine r_gI C0 hW (show 10 < 11 ∧ 0 < bs 10 from ⟨by decide, by decide⟩) rfl rfl hiX6 (k := 12) (by decide) kf_X6_110 rfl rfl rfl dX6_readsGroup_91 (fun z89 (hz89 : z89 = gN (w88 10) 0 12) rz89 => ?_)
              have rz89a := rz89.1
              have rz89b := rz89.2
              try simp (decide := true) only [hw88, hvw84, hw84, hvw80, hw80, up_s, gA_s, gA_sn, gN_sF, gA_sS, gN_sS, sA_st, sF_sF, sF_sS, sS_sS, arr_s, arr_n, arr_S, gA_aI, if_true, if_false, true_and, and_true, false_and, and_false, iIt0, iIt1, sS_c, Int.add_zero, sgX_9, sgX_10, sgX_12, sgX_F, sgX_0, num9] at hz89
              refine r_imul hx hb dX6_readsGroup_94 ?_
              refine r_iconst hx hb dX6_readsGroup_95 ?_
              refine r_iadd hx hb dX6_readsGroup_96 ?_
              refine lv_aload_n hx hb dX6_readsGroup_97 rfl (lv_at hl 1 rfl) ?_
              refine r_gI C0 hW (show 10 < 11 ∧ 0 < bs 10 from ⟨by decide, by decide⟩) rfl rfl hiX6 (k := 10) (by decide) kf_X6_128 rfl rfl rfl dX6_readsGroup_98 (fun z90 (hz90 : z90 = gN (w88 10) 0 10) rz90 => ?_)
              have rz90a := rz90.1
              have rz90b := rz90.2
              try simp (decide := true) only [hw88, hvw84, hw84, hvw80, hw80, up_s, gA_s, gA_sn, gN_sF, gA_sS, gN_sS, sA_st, sF_sF, sF_sS, sS_sS, arr_s, arr_n, arr_S, gA_aI, if_true, if_false, true_and, and_true, false_and, and_false, iIt0, iIt1, sS_c, Int.add_zero, sgX_9, sgX_10, sgX_12, sgX_F, sgX_0, num9] at hz90
              refine r_if_eq (tgt := 111) hx hb rz90 dX6_readsGroup_101 (by decide) (fun c91 => ?_) (fun c91 => ?_)
              · refine r_iconst hx hb dX6_readsGroup_111 ?_
                refine r_ist C0 hW (show 10 < 11 ∧ 6 < bs 10 from ⟨by decide, by decide⟩) (fun A => rfl) (n := 120) (v := iI 0) (by omega) (by omega) (by decide) dX6_readsGroup_112 (fun H1 locs1 hW => ?_)
                obtain ⟨w92, hw92⟩ : ∃ wq9 : gW, wq9 = up w88 10 (sA (w88 10) 6 ((2 * z89) + 1) (iI 0)) := ⟨_, rfl⟩
                rw [← hw92] at hW
                refine lv_aload_n hx hb dX6_readsGroup_113 rfl (lv_at hl 1 rfl) ?_
                refine lv_dup hx hb dX6_readsGroup_114 rfl ?_
                refine r_gI C0 hW (show 10 < 11 ∧ 0 < bs 10 from ⟨by decide, by decide⟩) rfl rfl hiX6 (k := 12) (by decide) kf_X6_110 rfl rfl rfl dX6_readsGroup_115 (fun z93 (hz93 : z93 = gN (w92 10) 0 12) rz93 => ?_)
                have rz93a := rz93.1
                have rz93b := rz93.2
                try simp (decide := true) only [hw92, hw88, hvw84, hw84, hvw80, hw80, up_s, gA_s, gA_sn, gN_sF, gA_sS, gN_sS, sA_st, sF_sF, sF_sS, sS_sS, arr_s, arr_n, arr_S, gA_aI, if_true, if_false, true_and, and_true, false_and, and_false, iIt0, iIt1, sS_c, Int.add_zero, sgX_9, sgX_10, sgX_12, sgX_F, sgX_0, num9] at hz93
                refine lv_aload_n hx hb dX6_readsGroup_118 rfl (lv_at hl 1 rfl) ?_
                refine r_gI C0 hW (show 10 < 11 ∧ 0 < bs 10 from ⟨by decide, by decide⟩) rfl rfl hiX6 (k := 10) (by decide) kf_X6_128 rfl rfl rfl dX6_readsGroup_119 (fun z94 (hz94 : z94 = gN (w92 10) 0 10) rz94 => ?_)
                have rz94a := rz94.1
                have rz94b := rz94.2
                try simp (decide := true) only [hw92, hw88, hvw84, hw84, hvw80, hw80, up_s, gA_s, gA_sn, gN_sF, gA_sS, gN_sS, sA_st, sF_sF, sF_sS, sS_sS, arr_s, arr_n, arr_S, gA_aI, if_true, if_false, true_and, and_true, false_and, and_false, iIt0, iIt1, sS_c, Int.add_zero, sgX_9, sgX_10, sgX_12, sgX_F, sgX_0, num9] at hz94
                refine r_if_eq (tgt := 129) hx hb rz94 dX6_readsGroup_122 (by decide) (fun c95 => ?_) (fun c95 => ?_)
                · refine r_iconst hx hb dX6_readsGroup_129 ?_
                  refine r_iadd hx hb dX6_readsGroup_130 ?_
                  refine r_pI C0 hW (show 10 < 11 ∧ 0 < bs 10 from ⟨by decide, by decide⟩) rfl rfl hiX6 tyX6 tyX6_ok nmX6 (k := 12) (v := iI (z93 + 0)) (by decide) kf_X6_110 rfl rfl rfl (tyX6_ok 12 (by decide)) rfl rfl (by simp) rfl dX6_readsGroup_131 (fun H1 locs1 hW => ?_)
                  obtain ⟨w96, hw96⟩ : ∃ wq9 : gW, wq9 = up w92 10 (sS (w92 10) 0 12 (iI (z93 + 0))) := ⟨_, rfl⟩
                  rw [← hw96] at hW
                  have hvw96 : (iI (z93 + 0)).toInt = (z93 + 0) := iI_t ⟨by omega, by omega⟩
                  exact r_vret C0 hW (⟨grp9 (w 10) (gN (w 10) 0 9) 0 (wOf (sgX (w 10) (gN (w 10) 0 9))) (0) (gN (w 10) 0 12), Or.inl (⟨(by unfold isD3; omega), (rfl)⟩), by rw [show wOf (sgX (w 10) (gN (w 10) 0 9)) = 2 from by unfold wOf; first | (rw [if_pos (by omega)]) | (rw [if_neg (by omega), if_pos (by omega)]) | (rw [if_neg (by omega), if_neg (by omega)])]; simp (decide := true) only [hvw96, hw96, hw92, hw88, hvw84, hw84, hvw80, hw80, up_up, up_s, gA_s, gA_sn, gN_sF, gA_sS, gN_sS, sA_st, sF_sF, sF_sS, sS_sS, arr_s, arr_n, arr_S, gA_aI, if_true, if_false, true_and, and_true, false_and, and_false, iIt0, iIt1, sS_c, Int.add_zero, sgX_9, sgX_10, sgX_12, sgX_F, sgX_0, num9, num9, grp9]; (try simp only [hz81, hz82, hz85, hz89, hz90, hz93, hz94])⟩) dX6_readsGroup_134
                · exfalso; omega
              · exfalso; omega
            · exfalso; omega
          · exfalso; omega
        · exfalso; omega
      · refine r_iconst hx hb dX6_readsGroup_24 ?_
        refine lv_goto (tgt := 29) hx hb dX6_readsGroup_25 (by decide) ?_
        refine r_pI C0 hW (show 10 < 11 ∧ 0 < bs 10 from ⟨by decide, by decide⟩) rfl rfl hiX6 tyX6 tyX6_ok nmX6 (k := 10) (v := iI 1) (by decide) kf_X6_128 rfl rfl rfl (tyX6_ok 10 (by decide)) (iI_bool (by first | exact Or.inl rfl | exact Or.inr rfl | omega)) (iI_fitz (by first | exact Or.inl rfl | exact Or.inr rfl | omega)) (by simp) rfl dX6_readsGroup_29 (fun H1 locs1 hW => ?_)
        obtain ⟨w97, hw97⟩ : ∃ wq9 : gW, wq9 = up w 10 (sS (w 10) 0 10 (iI 1)) := ⟨_, rfl⟩
        rw [← hw97] at hW
        have hvw97 : (iI 1).toInt = 1 := iI_t ⟨by omega, by omega⟩
        refine lv_aload_n hx hb dX6_readsGroup_32 rfl (lv_at hl 1 rfl) ?_
        refine lv_dup hx hb dX6_readsGroup_33 rfl ?_
        refine r_gI C0 hW (show 10 < 11 ∧ 0 < bs 10 from ⟨by decide, by decide⟩) rfl rfl hiX6 (k := 9) (by decide) kf_X6_122 rfl rfl rfl dX6_readsGroup_34 (fun z98 (hz98 : z98 = gN (w97 10) 0 9) rz98 => ?_)
        have rz98a := rz98.1
        have rz98b := rz98.2
        try simp (decide := true) only [hvw97, hw97, up_s, gA_s, gA_sn, gN_sF, gA_sS, gN_sS, sA_st, sF_sF, sF_sS, sS_sS, arr_s, arr_n, arr_S, gA_aI, if_true, if_false, true_and, and_true, false_and, and_false, iIt0, iIt1, sS_c, Int.add_zero, sgX_9, sgX_10, sgX_12, sgX_F, sgX_0, num9] at hz98
        refine lv_aload_n hx hb dX6_readsGroup_37 rfl (lv_at hl 1 rfl) ?_
        refine r_gI C0 hW (show 10 < 11 ∧ 0 < bs 10 from ⟨by decide, by decide⟩) rfl rfl hiX6 (k := 10) (by decide) kf_X6_128 rfl rfl rfl dX6_readsGroup_38 (fun z99 (hz99 : z99 = gN (w97 10) 0 10) rz99 => ?_)
        have rz99a := rz99.1
        have rz99b := rz99.2
        try simp (decide := true) only [hvw97, hw97, up_s, gA_s, gA_sn, gN_sF, gA_sS, gN_sS, sA_st, sF_sF, sF_sS, sS_sS, arr_s, arr_n, arr_S, gA_aI, if_true, if_false, true_and, and_true, false_and, and_false, iIt0, iIt1, sS_c, Int.add_zero, sgX_9, sgX_10, sgX_12, sgX_F, sgX_0, num9] at hz99
        refine r_if_eq (tgt := 48) hx hb rz99 dX6_readsGroup_41 (by decide) (fun c100 => ?_) (fun c100 => ?_)
        · exfalso; omega
        · refine r_iconst hx hb dX6_readsGroup_44 ?_
          refine lv_goto (tgt := 49) hx hb dX6_readsGroup_45 (by decide) ?_
          refine r_iadd hx hb dX6_readsGroup_49 ?_
          refine r_pI C0 hW (show 10 < 11 ∧ 0 < bs 10 from ⟨by decide, by decide⟩) rfl rfl hiX6 tyX6 tyX6_ok nmX6 (k := 9) (v := iI (z98 + 1)) (by decide) kf_X6_122 rfl rfl rfl (tyX6_ok 9 (by decide)) rfl rfl (by simp) rfl dX6_readsGroup_50 (fun H1 locs1 hW => ?_)
          obtain ⟨w101, hw101⟩ : ∃ wq9 : gW, wq9 = up w97 10 (sS (w97 10) 0 9 (iI (z98 + 1))) := ⟨_, rfl⟩
          rw [← hw101] at hW
          have hvw101 : (iI (z98 + 1)).toInt = (z98 + 1) := iI_t ⟨by omega, by omega⟩
          refine lv_aload_n hx hb dX6_readsGroup_53 rfl (lv_at hl 1 rfl) ?_
          refine r_gR C0 hW (show 10 < 11 ∧ 0 < bs 10 from ⟨by decide, by decide⟩) rfl rfl hiX6 (k := 11) (by decide) kf_X6_25 rfl rfl rfl dX6_readsGroup_54 ?_
          refine r_iconst hx hb dX6_readsGroup_57 ?_
          refine lv_aload_n hx hb dX6_readsGroup_58 rfl (lv_at hl 1 rfl) ?_
          refine r_gI C0 hW (show 10 < 11 ∧ 0 < bs 10 from ⟨by decide, by decide⟩) rfl rfl hiX6 (k := 12) (by decide) kf_X6_110 rfl rfl rfl dX6_readsGroup_59 (fun z102 (hz102 : z102 = gN (w101 10) 0 12) rz102 => ?_)
          have rz102a := rz102.1
          have rz102b := rz102.2
          try simp (decide := true) only [hvw101, hw101, hvw97, hw97, up_s, gA_s, gA_sn, gN_sF, gA_sS, gN_sS, sA_st, sF_sF, sF_sS, sS_sS, arr_s, arr_n, arr_S, gA_aI, if_true, if_false, true_and, and_true, false_and, and_false, iIt0, iIt1, sS_c, Int.add_zero, sgX_9, sgX_10, sgX_12, sgX_F, sgX_0, num9] at hz102
          refine r_imul hx hb dX6_readsGroup_62 ?_
          refine lv_iload_n hx hb dX6_readsGroup_63 rfl (lv_at hl 0 rfl) ?_
          refine r_bipush hx hb dX6_readsGroup_64 (by decide) ?_
          refine r_icmp_ne (tgt := 73) hx hb rz1 ⟨by omega, by omega⟩ dX6_readsGroup_66 (by decide) (fun c103 => ?_) (fun c103 => ?_)
          · refine lv_iload_n hx hb dX6_readsGroup_73 rfl (lv_at hl 0 rfl) ?_
            refine r_bipush hx hb dX6_readsGroup_74 (by decide) ?_
            refine r_icmp_ne (tgt := 83) hx hb rz1 ⟨by omega, by omega⟩ dX6_readsGroup_76 (by decide) (fun c104 => ?_) (fun c104 => ?_)
            · refine r_iconst hx hb dX6_readsGroup_83 ?_
              refine r_ist C0 hW (show 10 < 11 ∧ 6 < bs 10 from ⟨by decide, by decide⟩) (fun A => rfl) (n := 120) (v := iI 2) (by omega) (by omega) (by decide) dX6_readsGroup_84 (fun H1 locs1 hW => ?_)
              obtain ⟨w105, hw105⟩ : ∃ wq9 : gW, wq9 = up w101 10 (sA (w101 10) 6 (2 * z102) (iI 2)) := ⟨_, rfl⟩
              rw [← hw105] at hW
              refine lv_aload_n hx hb dX6_readsGroup_85 rfl (lv_at hl 1 rfl) ?_
              refine r_gR C0 hW (show 10 < 11 ∧ 0 < bs 10 from ⟨by decide, by decide⟩) rfl rfl hiX6 (k := 11) (by decide) kf_X6_25 rfl rfl rfl dX6_readsGroup_86 ?_
              refine r_iconst hx hb dX6_readsGroup_89 ?_
              refine lv_aload_n hx hb dX6_readsGroup_90 rfl (lv_at hl 1 rfl) ?_
              refine r_gI C0 hW (show 10 < 11 ∧ 0 < bs 10 from ⟨by decide, by decide⟩) rfl rfl hiX6 (k := 12) (by decide) kf_X6_110 rfl rfl rfl dX6_readsGroup_91 (fun z106 (hz106 : z106 = gN (w105 10) 0 12) rz106 => ?_)
              have rz106a := rz106.1
              have rz106b := rz106.2
              try simp (decide := true) only [hw105, hvw101, hw101, hvw97, hw97, up_s, gA_s, gA_sn, gN_sF, gA_sS, gN_sS, sA_st, sF_sF, sF_sS, sS_sS, arr_s, arr_n, arr_S, gA_aI, if_true, if_false, true_and, and_true, false_and, and_false, iIt0, iIt1, sS_c, Int.add_zero, sgX_9, sgX_10, sgX_12, sgX_F, sgX_0, num9] at hz106
              refine r_imul hx hb dX6_readsGroup_94 ?_
              refine r_iconst hx hb dX6_readsGroup_95 ?_
              refine r_iadd hx hb dX6_readsGroup_96 ?_
              refine lv_aload_n hx hb dX6_readsGroup_97 rfl (lv_at hl 1 rfl) ?_
              refine r_gI C0 hW (show 10 < 11 ∧ 0 < bs 10 from ⟨by decide, by decide⟩) rfl rfl hiX6 (k := 10) (by decide) kf_X6_128 rfl rfl rfl dX6_readsGroup_98 (fun z107 (hz107 : z107 = gN (w105 10) 0 10) rz107 => ?_)
              have rz107a := rz107.1
              have rz107b := rz107.2
              try simp (decide := true) only [hw105, hvw101, hw101, hvw97, hw97, up_s, gA_s, gA_sn, gN_sF, gA_sS, gN_sS, sA_st, sF_sF, sF_sS, sS_sS, arr_s, arr_n, arr_S, gA_aI, if_true, if_false, true_and, and_true, false_and, and_false, iIt0, iIt1, sS_c, Int.add_zero, sgX_9, sgX_10, sgX_12, sgX_F, sgX_0, num9] at hz107
              refine r_if_eq (tgt := 111) hx hb rz107 dX6_readsGroup_101 (by decide) (fun c108 => ?_) (fun c108 => ?_)
              · exfalso; omega
              · refine lv_aload_n hx hb dX6_readsGroup_104 rfl (lv_at hl 1 rfl) ?_
                refine k_Vi (j := 10) (k0 := 0) C0 hW (c_X6_number l G w105 (by first | omega | (simp (decide := true) only [hw105, hvw101, hw101, hvw97, hw97, up_s, gA_s, gA_sn, gN_sF, gA_sS, gN_sS, sA_st, sF_sF, sF_sS, sS_sS, arr_s, arr_n, arr_S, gA_aI, if_true, if_false, true_and, and_true, false_and, and_false, iIt0, iIt1, sS_c, Int.add_zero, sgX_9, sgX_10, sgX_12, sgX_F, sgX_0, num9]; omega))) km_X6_132 ki_X6_number ke_X6_number kn_X6 kc_X6_number rfl hdV_X6_number ⟨by decide, by decide⟩ (show 10 < 11 ∧ 0 < bs 10 from ⟨by decide, by decide⟩) rfl rfl rfl hl.1 rfl (Nat.le_of_ble_eq_true rfl) dX6_readsGroup_105 (fun z109 w109 H1 locs1 rz109 hp109 hW => ?_)
                rcases hp109 with ⟨cd109_0, hz109, hw109⟩ | ⟨cd109_0, hz109, hw109⟩ | ⟨cd109_0, cd109_1, hz109, hw109⟩ | ⟨cd109_0, cd109_1, hz109, hw109⟩ | ⟨cd109_0, cd109_1, hz109, hw109⟩
                · skip
                  have rz109a := rz109.1
                  have rz109b := rz109.2
                  try simp (decide := true) only [hw105, hvw101, hw101, hvw97, hw97, up_s, gA_s, gA_sn, gN_sF, gA_sS, gN_sS, sA_st, sF_sF, sF_sS, sS_sS, arr_s, arr_n, arr_S, gA_aI, if_true, if_false, true_and, and_true, false_and, and_false, iIt0, iIt1, sS_c, Int.add_zero, sgX_9, sgX_10, sgX_12, sgX_F, sgX_0, num9] at cd109_0; (try simp only [hz98, hz99, hz102, hz106, hz107] at cd109_0)
                  try simp (decide := true) only [hw105, hvw101, hw101, hvw97, hw97, up_s, gA_s, gA_sn, gN_sF, gA_sS, gN_sS, sA_st, sF_sF, sF_sS, sS_sS, arr_s, arr_n, arr_S, gA_aI, if_true, if_false, true_and, and_true, false_and, and_false, iIt0, iIt1, sS_c, Int.add_zero, sgX_9, sgX_10, sgX_12, sgX_F, sgX_0, num9] at hz109; (try simp only [hz98, hz99, hz102, hz106, hz107] at hz109)
                  refine lv_goto (tgt := 112) hx hb dX6_readsGroup_108 (by decide) ?_
                  refine r_ist C0 hW (show 10 < 11 ∧ 6 < bs 10 from ⟨by decide, by decide⟩) (fun A => rfl) (n := 120) (v := iI z109) (by omega) (by omega) (by decide) dX6_readsGroup_112 (fun H1 locs1 hW => ?_)
                  obtain ⟨w110, hw110⟩ : ∃ wq9 : gW, wq9 = up w109 10 (sA (w109 10) 6 ((2 * z106) + 1) (iI z109)) := ⟨_, rfl⟩
                  rw [← hw110] at hW
                  refine lv_aload_n hx hb dX6_readsGroup_113 rfl (lv_at hl 1 rfl) ?_
                  refine lv_dup hx hb dX6_readsGroup_114 rfl ?_
                  refine r_gI C0 hW (show 10 < 11 ∧ 0 < bs 10 from ⟨by decide, by decide⟩) rfl rfl hiX6 (k := 12) (by decide) kf_X6_110 rfl rfl rfl dX6_readsGroup_115 (fun z111 (hz111 : z111 = gN (w110 10) 0 12) rz111 => ?_)
                  have rz111a := rz111.1
                  have rz111b := rz111.2
                  try simp (decide := true) only [hw110, hw109, hw105, hvw101, hw101, hvw97, hw97, up_s, gA_s, gA_sn, gN_sF, gA_sS, gN_sS, sA_st, sF_sF, sF_sS, sS_sS, arr_s, arr_n, arr_S, gA_aI, if_true, if_false, true_and, and_true, false_and, and_false, iIt0, iIt1, sS_c, Int.add_zero, sgX_9, sgX_10, sgX_12, sgX_F, sgX_0, num9] at hz111
                  refine lv_aload_n hx hb dX6_readsGroup_118 rfl (lv_at hl 1 rfl) ?_
                  refine r_gI C0 hW (show 10 < 11 ∧ 0 < bs 10 from ⟨by decide, by decide⟩) rfl rfl hiX6 (k := 10) (by decide) kf_X6_128 rfl rfl rfl dX6_readsGroup_119 (fun z112 (hz112 : z112 = gN (w110 10) 0 10) rz112 => ?_)
                  have rz112a := rz112.1
                  have rz112b := rz112.2
                  try simp (decide := true) only [hw110, hw109, hw105, hvw101, hw101, hvw97, hw97, up_s, gA_s, gA_sn, gN_sF, gA_sS, gN_sS, sA_st, sF_sF, sF_sS, sS_sS, arr_s, arr_n, arr_S, gA_aI, if_true, if_false, true_and, and_true, false_and, and_false, iIt0, iIt1, sS_c, Int.add_zero, sgX_9, sgX_10, sgX_12, sgX_F, sgX_0, num9] at hz112
                  refine r_if_eq (tgt := 129) hx hb rz112 dX6_readsGroup_122 (by decide) (fun c113 => ?_) (fun c113 => ?_)
                  · exfalso; omega
                  · refine r_iconst hx hb dX6_readsGroup_125 ?_
                    refine lv_goto (tgt := 130) hx hb dX6_readsGroup_126 (by decide) ?_
                    refine r_iadd hx hb dX6_readsGroup_130 ?_
                    refine r_pI C0 hW (show 10 < 11 ∧ 0 < bs 10 from ⟨by decide, by decide⟩) rfl rfl hiX6 tyX6 tyX6_ok nmX6 (k := 12) (v := iI (z111 + 1)) (by decide) kf_X6_110 rfl rfl rfl (tyX6_ok 12 (by decide)) rfl rfl (by simp) rfl dX6_readsGroup_131 (fun H1 locs1 hW => ?_)
                    obtain ⟨w114, hw114⟩ : ∃ wq9 : gW, wq9 = up w110 10 (sS (w110 10) 0 12 (iI (z111 + 1))) := ⟨_, rfl⟩
                    rw [← hw114] at hW
                    have hvw114 : (iI (z111 + 1)).toInt = (z111 + 1) := iI_t ⟨by omega, by omega⟩
                    exact r_vret C0 hW (⟨grp9 (w 10) (gN (w 10) 0 9 + 1) 1 (wOf (sgX (w 10) (gN (w 10) 0 9))) (1) (gN (w 10) 0 12 + 1), Or.inr (Or.inl (⟨(by unfold isD3; omega), (by first | assumption | omega), (rfl)⟩)), by rw [show wOf (sgX (w 10) (gN (w 10) 0 9)) = 2 from by unfold wOf; first | (rw [if_pos (by omega)]) | (rw [if_neg (by omega), if_pos (by omega)]) | (rw [if_neg (by omega), if_neg (by omega)])]; simp (decide := true) only [hvw114, hw114, hw110, hw109, hw105, hvw101, hw101, hvw97, hw97, up_up, up_s, gA_s, gA_sn, gN_sF, gA_sS, gN_sS, sA_st, sF_sF, sF_sS, sS_sS, arr_s, arr_n, arr_S, gA_aI, if_true, if_false, true_and, and_true, false_and, and_false, iIt0, iIt1, sS_c, Int.add_zero, sgX_9, sgX_10, sgX_12, sgX_F, sgX_0, num9, num9, grp9]; (try simp only [hz98, hz99, hz102, hz106, hz107, hz109, hz111, hz112])⟩) dX6_readsGroup_134
                · skip
                  have rz109a := rz109.1
                  have rz109b := rz109.2
                  try simp (decide := true) only [hw105, hvw101, hw101, hvw97, hw97, up_s, gA_s, gA_sn, gN_sF, gA_sS, gN_sS, sA_st, sF_sF, sF_sS, sS_sS, arr_s, arr_n, arr_S, gA_aI, if_true, if_false, true_and, and_true, false_and, and_false, iIt0, iIt1, sS_c, Int.add_zero, sgX_9, sgX_10, sgX_12, sgX_F, sgX_0, num9] at cd109_0; (try simp only [hz98, hz99, hz102, hz106, hz107] at cd109_0)
                  try simp (decide := true) only [hw105, hvw101, hw101, hvw97, hw97, up_s, gA_s, gA_sn, gN_sF, gA_sS, gN_sS, sA_st, sF_sF, sF_sS, sS_sS, arr_s, arr_n, arr_S, gA_aI, if_true, if_false, true_and, and_true, false_and, and_false, iIt0, iIt1, sS_c, Int.add_zero, sgX_9, sgX_10, sgX_12, sgX_F, sgX_0, num9] at hz109; (try simp only [hz98, hz99, hz102, hz106, hz107] at hz109)
                  refine lv_goto (tgt := 112) hx hb dX6_readsGroup_108 (by decide) ?_
                  refine r_ist C0 hW (show 10 < 11 ∧ 6 < bs 10 from ⟨by decide, by decide⟩) (fun A => rfl) (n := 120) (v := iI z109) (by omega) (by omega) (by decide) dX6_readsGroup_112 (fun H1 locs1 hW => ?_)
                  obtain ⟨w115, hw115⟩ : ∃ wq9 : gW, wq9 = up w109 10 (sA (w109 10) 6 ((2 * z106) + 1) (iI z109)) := ⟨_, rfl⟩
                  rw [← hw115] at hW
                  refine lv_aload_n hx hb dX6_readsGroup_113 rfl (lv_at hl 1 rfl) ?_
                  refine lv_dup hx hb dX6_readsGroup_114 rfl ?_
                  refine r_gI C0 hW (show 10 < 11 ∧ 0 < bs 10 from ⟨by decide, by decide⟩) rfl rfl hiX6 (k := 12) (by decide) kf_X6_110 rfl rfl rfl dX6_readsGroup_115 (fun z116 (hz116 : z116 = gN (w115 10) 0 12) rz116 => ?_)
                  have rz116a := rz116.1
                  have rz116b := rz116.2
                  try simp (decide := true) only [hw115, hw109, hw105, hvw101, hw101, hvw97, hw97, up_s, gA_s, gA_sn, gN_sF, gA_sS, gN_sS, sA_st, sF_sF, sF_sS, sS_sS, arr_s, arr_n, arr_S, gA_aI, if_true, if_false, true_and, and_true, false_and, and_false, iIt0, iIt1, sS_c, Int.add_zero, sgX_9, sgX_10, sgX_12, sgX_F, sgX_0, num9] at hz116
                  refine lv_aload_n hx hb dX6_readsGroup_118 rfl (lv_at hl 1 rfl) ?_
                  refine r_gI C0 hW (show 10 < 11 ∧ 0 < bs 10 from ⟨by decide, by decide⟩) rfl rfl hiX6 (k := 10) (by decide) kf_X6_128 rfl rfl rfl dX6_readsGroup_119 (fun z117 (hz117 : z117 = gN (w115 10) 0 10) rz117 => ?_)
                  have rz117a := rz117.1
                  have rz117b := rz117.2
                  try simp (decide := true) only [hw115, hw109, hw105, hvw101, hw101, hvw97, hw97, up_s, gA_s, gA_sn, gN_sF, gA_sS, gN_sS, sA_st, sF_sF, sF_sS, sS_sS, arr_s, arr_n, arr_S, gA_aI, if_true, if_false, true_and, and_true, false_and, and_false, iIt0, iIt1, sS_c, Int.add_zero, sgX_9, sgX_10, sgX_12, sgX_F, sgX_0, num9] at hz117
                  refine r_if_eq (tgt := 129) hx hb rz117 dX6_readsGroup_122 (by decide) (fun c118 => ?_) (fun c118 => ?_)
                  · refine r_iconst hx hb dX6_readsGroup_129 ?_
                    refine r_iadd hx hb dX6_readsGroup_130 ?_
                    refine r_pI C0 hW (show 10 < 11 ∧ 0 < bs 10 from ⟨by decide, by decide⟩) rfl rfl hiX6 tyX6 tyX6_ok nmX6 (k := 12) (v := iI (z116 + 0)) (by decide) kf_X6_110 rfl rfl rfl (tyX6_ok 12 (by decide)) rfl rfl (by simp) rfl dX6_readsGroup_131 (fun H1 locs1 hW => ?_)
                    obtain ⟨w119, hw119⟩ : ∃ wq9 : gW, wq9 = up w115 10 (sS (w115 10) 0 12 (iI (z116 + 0))) := ⟨_, rfl⟩
                    rw [← hw119] at hW
                    have hvw119 : (iI (z116 + 0)).toInt = (z116 + 0) := iI_t ⟨by omega, by omega⟩
                    exact r_vret C0 hW (⟨grp9 (w 10) (gN (w 10) 0 9 + 1) 0 (wOf (sgX (w 10) (gN (w 10) 0 9))) (0) (gN (w 10) 0 12), Or.inr (Or.inr (Or.inl (⟨(by unfold isD3; omega), (by first | assumption | omega), (rfl)⟩))), by rw [show wOf (sgX (w 10) (gN (w 10) 0 9)) = 2 from by unfold wOf; first | (rw [if_pos (by omega)]) | (rw [if_neg (by omega), if_pos (by omega)]) | (rw [if_neg (by omega), if_neg (by omega)])]; simp (decide := true) only [hvw119, hw119, hw115, hw109, hw105, hvw101, hw101, hvw97, hw97, up_up, up_s, gA_s, gA_sn, gN_sF, gA_sS, gN_sS, sA_st, sF_sF, sF_sS, sS_sS, arr_s, arr_n, arr_S, gA_aI, if_true, if_false, true_and, and_true, false_and, and_false, iIt0, iIt1, sS_c, Int.add_zero, sgX_9, sgX_10, sgX_12, sgX_F, sgX_0, num9, num9, grp9]; (try simp only [hz98, hz99, hz102, hz106, hz107, hz109, hz116, hz117])⟩) dX6_readsGroup_134
                  · exfalso; omega
                · skip
                  have rz109a := rz109.1
                  have rz109b := rz109.2
                  try simp (decide := true) only [hw105, hvw101, hw101, hvw97, hw97, up_s, gA_s, gA_sn, gN_sF, gA_sS, gN_sS, sA_st, sF_sF, sF_sS, sS_sS, arr_s, arr_n, arr_S, gA_aI, if_true, if_false, true_and, and_true, false_and, and_false, iIt0, iIt1, sS_c, Int.add_zero, sgX_9, sgX_10, sgX_12, sgX_F, sgX_0, num9] at cd109_0; (try simp only [hz98, hz99, hz102, hz106, hz107] at cd109_0)
                  try simp (decide := true) only [hw105, hvw101, hw101, hvw97, hw97, up_s, gA_s, gA_sn, gN_sF, gA_sS, gN_sS, sA_st, sF_sF, sF_sS, sS_sS, arr_s, arr_n, arr_S, gA_aI, if_true, if_false, true_and, and_true, false_and, and_false, iIt0, iIt1, sS_c, Int.add_zero, sgX_9, sgX_10, sgX_12, sgX_F, sgX_0, num9] at cd109_1; (try simp only [hz98, hz99, hz102, hz106, hz107] at cd109_1)
                  try simp (decide := true) only [hw105, hvw101, hw101, hvw97, hw97, up_s, gA_s, gA_sn, gN_sF, gA_sS, gN_sS, sA_st, sF_sF, sF_sS, sS_sS, arr_s, arr_n, arr_S, gA_aI, if_true, if_false, true_and, and_true, false_and, and_false, iIt0, iIt1, sS_c, Int.add_zero, sgX_9, sgX_10, sgX_12, sgX_F, sgX_0, num9] at hz109; (try simp only [hz98, hz99, hz102, hz106, hz107] at hz109)
                  refine lv_goto (tgt := 112) hx hb dX6_readsGroup_108 (by decide) ?_
                  refine r_ist C0 hW (show 10 < 11 ∧ 6 < bs 10 from ⟨by decide, by decide⟩) (fun A => rfl) (n := 120) (v := iI z109) (by omega) (by omega) (by decide) dX6_readsGroup_112 (fun H1 locs1 hW => ?_)
                  obtain ⟨w120, hw120⟩ : ∃ wq9 : gW, wq9 = up w109 10 (sA (w109 10) 6 ((2 * z106) + 1) (iI z109)) := ⟨_, rfl⟩
                  rw [← hw120] at hW
                  refine lv_aload_n hx hb dX6_readsGroup_113 rfl (lv_at hl 1 rfl) ?_
                  refine lv_dup hx hb dX6_readsGroup_114 rfl ?_
                  refine r_gI C0 hW (show 10 < 11 ∧ 0 < bs 10 from ⟨by decide, by decide⟩) rfl rfl hiX6 (k := 12) (by decide) kf_X6_110 rfl rfl rfl dX6_readsGroup_115 (fun z121 (hz121 : z121 = gN (w120 10) 0 12) rz121 => ?_)
                  have rz121a := rz121.1
                  have rz121b := rz121.2
                  try simp (decide := true) only [hw120, hw109, hw105, hvw101, hw101, hvw97, hw97, up_s, gA_s, gA_sn, gN_sF, gA_sS, gN_sS, sA_st, sF_sF, sF_sS, sS_sS, arr_s, arr_n, arr_S, gA_aI, if_true, if_false, true_and, and_true, false_and, and_false, iIt0, iIt1, sS_c, Int.add_zero, sgX_9, sgX_10, sgX_12, sgX_F, sgX_0, num9] at hz121
                  refine lv_aload_n hx hb dX6_readsGroup_118 rfl (lv_at hl 1 rfl) ?_
                  refine r_gI C0 hW (show 10 < 11 ∧ 0 < bs 10 from ⟨by decide, by decide⟩) rfl rfl hiX6 (k := 10) (by decide) kf_X6_128 rfl rfl rfl dX6_readsGroup_119 (fun z122 (hz122 : z122 = gN (w120 10) 0 10) rz122 => ?_)
                  have rz122a := rz122.1
                  have rz122b := rz122.2
                  try simp (decide := true) only [hw120, hw109, hw105, hvw101, hw101, hvw97, hw97, up_s, gA_s, gA_sn, gN_sF, gA_sS, gN_sS, sA_st, sF_sF, sF_sS, sS_sS, arr_s, arr_n, arr_S, gA_aI, if_true, if_false, true_and, and_true, false_and, and_false, iIt0, iIt1, sS_c, Int.add_zero, sgX_9, sgX_10, sgX_12, sgX_F, sgX_0, num9] at hz122
                  refine r_if_eq (tgt := 129) hx hb rz122 dX6_readsGroup_122 (by decide) (fun c123 => ?_) (fun c123 => ?_)
                  · exfalso; omega
                  · refine r_iconst hx hb dX6_readsGroup_125 ?_
                    refine lv_goto (tgt := 130) hx hb dX6_readsGroup_126 (by decide) ?_
                    refine r_iadd hx hb dX6_readsGroup_130 ?_
                    refine r_pI C0 hW (show 10 < 11 ∧ 0 < bs 10 from ⟨by decide, by decide⟩) rfl rfl hiX6 tyX6 tyX6_ok nmX6 (k := 12) (v := iI (z121 + 1)) (by decide) kf_X6_110 rfl rfl rfl (tyX6_ok 12 (by decide)) rfl rfl (by simp) rfl dX6_readsGroup_131 (fun H1 locs1 hW => ?_)
                    obtain ⟨w124, hw124⟩ : ∃ wq9 : gW, wq9 = up w120 10 (sS (w120 10) 0 12 (iI (z121 + 1))) := ⟨_, rfl⟩
                    rw [← hw124] at hW
                    have hvw124 : (iI (z121 + 1)).toInt = (z121 + 1) := iI_t ⟨by omega, by omega⟩
                    exact r_vret C0 hW (⟨grp9 (w 10) (gN (w 10) 0 9 + 1 + 1 + 1) 1 (wOf (sgX (w 10) (gN (w 10) 0 9))) (10 * (sgX (w 10) (gN (w 10) 0 9 + 1) - 48) + sgX (w 10) (gN (w 10) 0 9 + 1 + 1) - 48) (gN (w 10) 0 12 + 1), Or.inr (Or.inr (Or.inr (Or.inl (⟨(by unfold isD3; omega), (by first | assumption | omega), (by first | assumption | omega), (rfl)⟩)))), by rw [show wOf (sgX (w 10) (gN (w 10) 0 9)) = 2 from by unfold wOf; first | (rw [if_pos (by omega)]) | (rw [if_neg (by omega), if_pos (by omega)]) | (rw [if_neg (by omega), if_neg (by omega)])]; simp (decide := true) only [hvw124, hw124, hw120, hw109, hw105, hvw101, hw101, hvw97, hw97, up_up, up_s, gA_s, gA_sn, gN_sF, gA_sS, gN_sS, sA_st, sF_sF, sF_sS, sS_sS, arr_s, arr_n, arr_S, gA_aI, if_true, if_false, true_and, and_true, false_and, and_false, iIt0, iIt1, sS_c, Int.add_zero, sgX_9, sgX_10, sgX_12, sgX_F, sgX_0, num9, num9, grp9]; (try simp only [hz98, hz99, hz102, hz106, hz107, hz109, hz121, hz122])⟩) dX6_readsGroup_134
                · skip
                  have rz109a := rz109.1
                  have rz109b := rz109.2
                  try simp (decide := true) only [hw105, hvw101, hw101, hvw97, hw97, up_s, gA_s, gA_sn, gN_sF, gA_sS, gN_sS, sA_st, sF_sF, sF_sS, sS_sS, arr_s, arr_n, arr_S, gA_aI, if_true, if_false, true_and, and_true, false_and, and_false, iIt0, iIt1, sS_c, Int.add_zero, sgX_9, sgX_10, sgX_12, sgX_F, sgX_0, num9] at cd109_0; (try simp only [hz98, hz99, hz102, hz106, hz107] at cd109_0)
                  try simp (decide := true) only [hw105, hvw101, hw101, hvw97, hw97, up_s, gA_s, gA_sn, gN_sF, gA_sS, gN_sS, sA_st, sF_sF, sF_sS, sS_sS, arr_s, arr_n, arr_S, gA_aI, if_true, if_false, true_and, and_true, false_and, and_false, iIt0, iIt1, sS_c, Int.add_zero, sgX_9, sgX_10, sgX_12, sgX_F, sgX_0, num9] at cd109_1; (try simp only [hz98, hz99, hz102, hz106, hz107] at cd109_1)
                  try simp (decide := true) only [hw105, hvw101, hw101, hvw97, hw97, up_s, gA_s, gA_sn, gN_sF, gA_sS, gN_sS, sA_st, sF_sF, sF_sS, sS_sS, arr_s, arr_n, arr_S, gA_aI, if_true, if_false, true_and, and_true, false_and, and_false, iIt0, iIt1, sS_c, Int.add_zero, sgX_9, sgX_10, sgX_12, sgX_F, sgX_0, num9] at hz109; (try simp only [hz98, hz99, hz102, hz106, hz107] at hz109)
                  refine lv_goto (tgt := 112) hx hb dX6_readsGroup_108 (by decide) ?_
                  refine r_ist C0 hW (show 10 < 11 ∧ 6 < bs 10 from ⟨by decide, by decide⟩) (fun A => rfl) (n := 120) (v := iI z109) (by omega) (by omega) (by decide) dX6_readsGroup_112 (fun H1 locs1 hW => ?_)
                  obtain ⟨w125, hw125⟩ : ∃ wq9 : gW, wq9 = up w109 10 (sA (w109 10) 6 ((2 * z106) + 1) (iI z109)) := ⟨_, rfl⟩
                  rw [← hw125] at hW
                  refine lv_aload_n hx hb dX6_readsGroup_113 rfl (lv_at hl 1 rfl) ?_
                  refine lv_dup hx hb dX6_readsGroup_114 rfl ?_
                  refine r_gI C0 hW (show 10 < 11 ∧ 0 < bs 10 from ⟨by decide, by decide⟩) rfl rfl hiX6 (k := 12) (by decide) kf_X6_110 rfl rfl rfl dX6_readsGroup_115 (fun z126 (hz126 : z126 = gN (w125 10) 0 12) rz126 => ?_)
                  have rz126a := rz126.1
                  have rz126b := rz126.2
                  try simp (decide := true) only [hw125, hw109, hw105, hvw101, hw101, hvw97, hw97, up_s, gA_s, gA_sn, gN_sF, gA_sS, gN_sS, sA_st, sF_sF, sF_sS, sS_sS, arr_s, arr_n, arr_S, gA_aI, if_true, if_false, true_and, and_true, false_and, and_false, iIt0, iIt1, sS_c, Int.add_zero, sgX_9, sgX_10, sgX_12, sgX_F, sgX_0, num9] at hz126
                  refine lv_aload_n hx hb dX6_readsGroup_118 rfl (lv_at hl 1 rfl) ?_
                  refine r_gI C0 hW (show 10 < 11 ∧ 0 < bs 10 from ⟨by decide, by decide⟩) rfl rfl hiX6 (k := 10) (by decide) kf_X6_128 rfl rfl rfl dX6_readsGroup_119 (fun z127 (hz127 : z127 = gN (w125 10) 0 10) rz127 => ?_)
                  have rz127a := rz127.1
                  have rz127b := rz127.2
                  try simp (decide := true) only [hw125, hw109, hw105, hvw101, hw101, hvw97, hw97, up_s, gA_s, gA_sn, gN_sF, gA_sS, gN_sS, sA_st, sF_sF, sF_sS, sS_sS, arr_s, arr_n, arr_S, gA_aI, if_true, if_false, true_and, and_true, false_and, and_false, iIt0, iIt1, sS_c, Int.add_zero, sgX_9, sgX_10, sgX_12, sgX_F, sgX_0, num9] at hz127
                  refine r_if_eq (tgt := 129) hx hb rz127 dX6_readsGroup_122 (by decide) (fun c128 => ?_) (fun c128 => ?_)
                  · refine r_iconst hx hb dX6_readsGroup_129 ?_
                    refine r_iadd hx hb dX6_readsGroup_130 ?_
                    refine r_pI C0 hW (show 10 < 11 ∧ 0 < bs 10 from ⟨by decide, by decide⟩) rfl rfl hiX6 tyX6 tyX6_ok nmX6 (k := 12) (v := iI (z126 + 0)) (by decide) kf_X6_110 rfl rfl rfl (tyX6_ok 12 (by decide)) rfl rfl (by simp) rfl dX6_readsGroup_131 (fun H1 locs1 hW => ?_)
                    obtain ⟨w129, hw129⟩ : ∃ wq9 : gW, wq9 = up w125 10 (sS (w125 10) 0 12 (iI (z126 + 0))) := ⟨_, rfl⟩
                    rw [← hw129] at hW
                    have hvw129 : (iI (z126 + 0)).toInt = (z126 + 0) := iI_t ⟨by omega, by omega⟩
                    exact r_vret C0 hW (⟨grp9 (w 10) (gN (w 10) 0 9 + 1 + 1) 0 (wOf (sgX (w 10) (gN (w 10) 0 9))) (1) (gN (w 10) 0 12), Or.inr (Or.inr (Or.inr (Or.inr (Or.inl (⟨(by unfold isD3; omega), (by first | assumption | omega), (by first | assumption | omega), (rfl)⟩))))), by rw [show wOf (sgX (w 10) (gN (w 10) 0 9)) = 2 from by unfold wOf; first | (rw [if_pos (by omega)]) | (rw [if_neg (by omega), if_pos (by omega)]) | (rw [if_neg (by omega), if_neg (by omega)])]; simp (decide := true) only [hvw129, hw129, hw125, hw109, hw105, hvw101, hw101, hvw97, hw97, up_up, up_s, gA_s, gA_sn, gN_sF, gA_sS, gN_sS, sA_st, sF_sF, sF_sS, sS_sS, arr_s, arr_n, arr_S, gA_aI, if_true, if_false, true_and, and_true, false_and, and_false, iIt0, iIt1, sS_c, Int.add_zero, sgX_9, sgX_10, sgX_12, sgX_F, sgX_0, num9, num9, grp9]; (try simp only [hz98, hz99, hz102, hz106, hz107, hz109, hz126, hz127])⟩) dX6_readsGroup_134
                  · exfalso; omega
                · skip
                  have rz109a := rz109.1
                  have rz109b := rz109.2
                  try simp (decide := true) only [hw105, hvw101, hw101, hvw97, hw97, up_s, gA_s, gA_sn, gN_sF, gA_sS, gN_sS, sA_st, sF_sF, sF_sS, sS_sS, arr_s, arr_n, arr_S, gA_aI, if_true, if_false, true_and, and_true, false_and, and_false, iIt0, iIt1, sS_c, Int.add_zero, sgX_9, sgX_10, sgX_12, sgX_F, sgX_0, num9] at cd109_0; (try simp only [hz98, hz99, hz102, hz106, hz107] at cd109_0)
                  try simp (decide := true) only [hw105, hvw101, hw101, hvw97, hw97, up_s, gA_s, gA_sn, gN_sF, gA_sS, gN_sS, sA_st, sF_sF, sF_sS, sS_sS, arr_s, arr_n, arr_S, gA_aI, if_true, if_false, true_and, and_true, false_and, and_false, iIt0, iIt1, sS_c, Int.add_zero, sgX_9, sgX_10, sgX_12, sgX_F, sgX_0, num9] at cd109_1; (try simp only [hz98, hz99, hz102, hz106, hz107] at cd109_1)
                  try simp (decide := true) only [hw105, hvw101, hw101, hvw97, hw97, up_s, gA_s, gA_sn, gN_sF, gA_sS, gN_sS, sA_st, sF_sF, sF_sS, sS_sS, arr_s, arr_n, arr_S, gA_aI, if_true, if_false, true_and, and_true, false_and, and_false, iIt0, iIt1, sS_c, Int.add_zero, sgX_9, sgX_10, sgX_12, sgX_F, sgX_0, num9] at hz109; (try simp only [hz98, hz99, hz102, hz106, hz107] at hz109)
                  refine lv_goto (tgt := 112) hx hb dX6_readsGroup_108 (by decide) ?_
                  refine r_ist C0 hW (show 10 < 11 ∧ 6 < bs 10 from ⟨by decide, by decide⟩) (fun A => rfl) (n := 120) (v := iI z109) (by omega) (by omega) (by decide) dX6_readsGroup_112 (fun H1 locs1 hW => ?_)
                  obtain ⟨w130, hw130⟩ : ∃ wq9 : gW, wq9 = up w109 10 (sA (w109 10) 6 ((2 * z106) + 1) (iI z109)) := ⟨_, rfl⟩
                  rw [← hw130] at hW
                  refine lv_aload_n hx hb dX6_readsGroup_113 rfl (lv_at hl 1 rfl) ?_
                  refine lv_dup hx hb dX6_readsGroup_114 rfl ?_
                  refine r_gI C0 hW (show 10 < 11 ∧ 0 < bs 10 from ⟨by decide, by decide⟩) rfl rfl hiX6 (k := 12) (by decide) kf_X6_110 rfl rfl rfl dX6_readsGroup_115 (fun z131 (hz131 : z131 = gN (w130 10) 0 12) rz131 => ?_)
                  have rz131a := rz131.1
                  have rz131b := rz131.2
                  try simp (decide := true) only [hw130, hw109, hw105, hvw101, hw101, hvw97, hw97, up_s, gA_s, gA_sn, gN_sF, gA_sS, gN_sS, sA_st, sF_sF, sF_sS, sS_sS, arr_s, arr_n, arr_S, gA_aI, if_true, if_false, true_and, and_true, false_and, and_false, iIt0, iIt1, sS_c, Int.add_zero, sgX_9, sgX_10, sgX_12, sgX_F, sgX_0, num9] at hz131
                  refine lv_aload_n hx hb dX6_readsGroup_118 rfl (lv_at hl 1 rfl) ?_
                  refine r_gI C0 hW (show 10 < 11 ∧ 0 < bs 10 from ⟨by decide, by decide⟩) rfl rfl hiX6 (k := 10) (by decide) kf_X6_128 rfl rfl rfl dX6_readsGroup_119 (fun z132 (hz132 : z132 = gN (w130 10) 0 10) rz132 => ?_)
                  have rz132a := rz132.1
                  have rz132b := rz132.2
                  try simp (decide := true) only [hw130, hw109, hw105, hvw101, hw101, hvw97, hw97, up_s, gA_s, gA_sn, gN_sF, gA_sS, gN_sS, sA_st, sF_sF, sF_sS, sS_sS, arr_s, arr_n, arr_S, gA_aI, if_true, if_false, true_and, and_true, false_and, and_false, iIt0, iIt1, sS_c, Int.add_zero, sgX_9, sgX_10, sgX_12, sgX_F, sgX_0, num9] at hz132
                  refine r_if_eq (tgt := 129) hx hb rz132 dX6_readsGroup_122 (by decide) (fun c133 => ?_) (fun c133 => ?_)
                  · exfalso; omega
                  · refine r_iconst hx hb dX6_readsGroup_125 ?_
                    refine lv_goto (tgt := 130) hx hb dX6_readsGroup_126 (by decide) ?_
                    refine r_iadd hx hb dX6_readsGroup_130 ?_
                    refine r_pI C0 hW (show 10 < 11 ∧ 0 < bs 10 from ⟨by decide, by decide⟩) rfl rfl hiX6 tyX6 tyX6_ok nmX6 (k := 12) (v := iI (z131 + 1)) (by decide) kf_X6_110 rfl rfl rfl (tyX6_ok 12 (by decide)) rfl rfl (by simp) rfl dX6_readsGroup_131 (fun H1 locs1 hW => ?_)
                    obtain ⟨w134, hw134⟩ : ∃ wq9 : gW, wq9 = up w130 10 (sS (w130 10) 0 12 (iI (z131 + 1))) := ⟨_, rfl⟩
                    rw [← hw134] at hW
                    have hvw134 : (iI (z131 + 1)).toInt = (z131 + 1) := iI_t ⟨by omega, by omega⟩
                    exact r_vret C0 hW (⟨grp9 (w 10) (gN (w 10) 0 9 + 1 + 1) 1 (wOf (sgX (w 10) (gN (w 10) 0 9))) (sgX (w 10) (gN (w 10) 0 9 + 1) - 48) (gN (w 10) 0 12 + 1), Or.inr (Or.inr (Or.inr (Or.inr (Or.inr (⟨(by unfold isD3; omega), (by first | assumption | omega), (by first | assumption | omega), (rfl)⟩))))), by rw [show wOf (sgX (w 10) (gN (w 10) 0 9)) = 2 from by unfold wOf; first | (rw [if_pos (by omega)]) | (rw [if_neg (by omega), if_pos (by omega)]) | (rw [if_neg (by omega), if_neg (by omega)])]; simp (decide := true) only [hvw134, hw134, hw130, hw109, hw105, hvw101, hw101, hvw97, hw97, up_up, up_s, gA_s, gA_sn, gN_sF, gA_sS, gN_sS, sA_st, sF_sF, sF_sS, sS_sS, arr_s, arr_n, arr_S, gA_aI, if_true, if_false, true_and, and_true, false_and, and_false, iIt0, iIt1, sS_c, Int.add_zero, sgX_9, sgX_10, sgX_12, sgX_F, sgX_0, num9, num9, grp9]; (try simp only [hz98, hz99, hz102, hz106, hz107, hz109, hz131, hz132])⟩) dX6_readsGroup_134
            · exfalso; omega
          · exfalso; omega
