/-- X6_endYear: its end -/
def po_X6_endYear (w : gW) : Int → gW → Prop := fun z w1 => ((True) ∧ (z = aI ((w 10).1 1) 4) ∧ (w1 = up w 10 (sF (recS (sS (w 10) 0 0 (iI 0))) 1 (yrA ((w 10).1 1)))))
theorem hdV_X6_endYear : yX6_endYear.cls = RX6 ∧ yX6_endYear.cls ≠ "java/lang/invoke/MethodHandle" ∧ yX6_endYear.cls ≠ "java/lang/invoke/VarHandle" ∧ (parseMethodDescriptor yX6_endYear.desc).map (fun d => d.parameters.length) = some 0 := by decide +kernel
set_option maxHeartbeats 4000000 in
set_option maxRecDepth 100000 in
theorem c_X6_endYear (l : Launch) (G : gG) (w : gW) (hM : mO w) : mI l G yX6_endYear (wU yX6_endYear cX6_endYear 3 (some .int)) (rmL 1 22) [.ref (ad G 10 0)] w (po_X6_endYear w) := by
  refine mI_of (by decide +kernel) (Nat.le_of_ble_eq_true rfl) (fun p e s m args below meth c ls C0 hW hl => ?_)
  have hl : lv_has ls 3 [(0, .ref (ad G 10 0))] := hl
  have hx := C0.hx
  have hb := C0.hb
  obtain ⟨hwA, hop, hds, hsm, hln, hdy, hsk⟩ := id hM
  obtain ⟨hv1, hv2, hv3, hv4⟩ := id hwA
  refine lv_aload_n hx hb dX6_endYear_0 rfl (lv_at hl 0 rfl) ?_
  refine r_iconst hx hb dX6_endYear_1 ?_
  refine r_pI C0 hW (show 10 < 11 ∧ 0 < bs 10 from ⟨by decide, by decide⟩) rfl rfl hiX6 tyX6 tyX6_ok nmX6 (k := 0) (v := iI 0) (by decide) kf_X6_28 rfl rfl rfl (tyX6_ok 0 (by decide)) rfl rfl (by simp) rfl dX6_endYear_2 (fun H1 locs1 hW => ?_)
  obtain ⟨w1, hw1⟩ : ∃ wq9 : gW, wq9 = up w 10 (sS (w 10) 0 0 (iI 0)) := ⟨_, rfl⟩
  rw [← hw1] at hW
  refine lv_aload_n hx hb dX6_endYear_5 rfl (lv_at hl 0 rfl) ?_
  refine k_Vv (j := 10) (k0 := 0) C0 hW (c_X6_records l G w1 (by first | omega | (simp (decide := true) only [hw1, up_s, gA_s, gA_sn, gN_sF, gA_sS, gN_sS, sA_st, sF_sF, sF_sS, sS_sS, arr_s, arr_n, arr_S, gA_aI, if_true, if_false, true_and, and_true, false_and, and_false, recS_1, recS_4, recS_5, recS_6, gN_rec, gA_sx, iIt0, iIt1] <;> omega))) km_X6_80 ki_X6_records ke_X6_records kn_X6 kc_X6_records rfl hdV_X6_records ⟨by decide, by decide⟩ (show 10 < 11 ∧ 0 < bs 10 from ⟨by decide, by decide⟩) rfl rfl rfl hl.1 rfl (Nat.le_of_ble_eq_true rfl) dX6_endYear_6 (fun w2 H1 locs1 hp2 hW => ?_)
  have hw2 : w2 = _ := hp2
  refine lv_aload_n hx hb dX6_endYear_9 rfl (lv_at hl 0 rfl) ?_
  refine r_gR C0 hW (show 10 < 11 ∧ 0 < bs 10 from ⟨by decide, by decide⟩) rfl rfl hiX6 (k := 1) (by decide) kf_X6_7 rfl rfl rfl dX6_endYear_10 ?_
  refine r_iconst hx hb dX6_endYear_13 ?_
  refine r_ild C0 hW (show 10 < 11 ∧ 1 < bs 10 from ⟨by decide, by decide⟩) rfl (n := 941) (by omega) (by omega) (by omega) dX6_endYear_14 (fun z3 (hz3 : z3 = gA (w2 10) 1 4) rz3 => ?_)
  have rz3a := rz3.1
  have rz3b := rz3.2
  try simp (decide := true) only [hw2, hw1, up_s, gA_s, gA_sn, gN_sF, gA_sS, gN_sS, sA_st, sF_sF, sF_sS, sS_sS, arr_s, arr_n, arr_S, gA_aI, if_true, if_false, true_and, and_true, false_and, and_false, recS_1, recS_4, recS_5, recS_6, gN_rec, gA_sx, iIt0, iIt1] at hz3
  refine lv_istore_n (lv' := [(1, .int (iI z3)), (0, .ref (ad G 10 0))]) hx hb dX6_endYear_15 rfl hl (by decide) rfl (fun ls hl => ?_)
  refine r_iconst hx hb dX6_endYear_16 ?_
  refine lv_istore_n (lv' := [(2, .int (iI 0)), (1, .int (iI z3)), (0, .ref (ad G 10 0))]) hx hb dX6_endYear_17 rfl hl (by decide) rfl (fun ls hl => ?_)
  have hL18 : ∀ (n : Nat) (x2 : Int) (wv : gW) (hwv : wv = up w 10 (sF (recS (sS (w 10) 0 0 (iI 0))) 1 (selG ((w 10).1 1) (fun _ => iI 0) 101 (101 + x2)))) (H0 : Heap) (locs0 : List Loc) (ls : Array Slot) (hm : 360 - x2 < (n : Int)) (i18_0 : 0 ≤ x2) (i18_1 : x2 ≤ 360) (hW : wo G wv s H0 locs0) (hl : lv_has ls 3 [(2, .int (iI x2)), (1, .int (iI z3)), (0, .ref (ad G 10 0))]), W p l e (rmL 1 22) s m args below meth c H0 locs0 0 0 (QI G (po_X6_endYear w) below args s) (F0 m 18 ls []) := by
    intro n
    induction n with
    | zero =>
      intro x2 wv hwv H0 locs0 ls hm i18_0 i18_1 hW hl
      exact absurd hm (by omega)
    | succ n ih18 =>
      intro x2 wv hwv H0 locs0 ls hm i18_0 i18_1 hW hl
      refine lv_iload_n hx hb dX6_endYear_18 rfl (lv_at hl 0 rfl) ?_
      refine r_sipush hx hb dX6_endYear_19 (by decide) ?_
      refine r_icmp_ge (tgt := 41) hx hb ⟨by omega, by omega⟩ ⟨by omega, by omega⟩ dX6_endYear_22 (by decide) (fun c4 => ?_) (fun c4 => ?_)
      · rw [show 101 + x2 = 461 from by omega] at hwv
        refine r_iconst hx hb dX6_endYear_41 ?_
        refine lv_istore_n (lv' := [(2, .int (iI 0)), (1, .int (iI z3)), (0, .ref (ad G 10 0))]) hx hb dX6_endYear_42 rfl hl (by decide) rfl (fun ls hl => ?_)
        have hL43 : ∀ (n : Nat) (y2 : Int) (wu : gW) (hwu : wu = up w 10 (sF (recS (sS (w 10) 0 0 (iI 0))) 1 (selG (selG ((w 10).1 1) (fun _ => iI 0) 101  461) (fun _ => iI 0) 461 (461 + y2)))) (H0 : Heap) (locs0 : List Loc) (ls : Array Slot) (hm : 4 * aI ((w 10).1 1) 7 - y2 < (n : Int)) (i43_0 : 0 ≤ y2) (i43_1 : y2 ≤ 4 * aI ((w 10).1 1) 7) (hW : wo G wu s H0 locs0) (hl : lv_has ls 3 [(2, .int (iI y2)), (1, .int (iI z3)), (0, .ref (ad G 10 0))]), W p l e (rmL 1 22) s m args below meth c H0 locs0 0 0 (QI G (po_X6_endYear w) below args s) (F0 m 43 ls []) := by
          intro n
          induction n with
          | zero =>
            intro y2 wu hwu H0 locs0 ls hm i43_0 i43_1 hW hl
            exact absurd hm (by omega)
          | succ n ih43 =>
            intro y2 wu hwu H0 locs0 ls hm i43_0 i43_1 hW hl
            have hlo : aI (selG (selG ((w 10).1 1) (fun _ => iI 0) 101  461) (fun _ => iI 0) 461  (461 + y2)) 7 = aI ((w 10).1 1) 7 := by rw [aI_so _ _ (by omega), aI_so _ _ (by omega)]
            refine lv_iload_n hx hb dX6_endYear_43 rfl (lv_at hl 0 rfl) ?_
            refine r_iconst hx hb dX6_endYear_44 ?_
            refine lv_aload_n hx hb dX6_endYear_45 rfl (lv_at hl 2 rfl) ?_
            refine r_gR C0 hW (show 10 < 11 ∧ 0 < bs 10 from ⟨by decide, by decide⟩) rfl rfl hiX6 (k := 1) (by decide) kf_X6_7 rfl rfl rfl dX6_endYear_46 ?_
            refine r_bipush hx hb dX6_endYear_49 (by decide) ?_
            refine r_ild C0 hW (show 10 < 11 ∧ 1 < bs 10 from ⟨by decide, by decide⟩) rfl (n := 941) (by omega) (by omega) (by omega) dX6_endYear_51 (fun z5 (hz5 : z5 = gA (wu 10) 1 7) rz5 => ?_)
            have rz5a := rz5.1
            have rz5b := rz5.2
            try simp (decide := true) only [hwu, up_s, gA_s, gA_sn, gN_sF, gA_sS, gN_sS, sA_st, sF_sF, sF_sS, sS_sS, arr_s, arr_n, arr_S, gA_aI, if_true, if_false, true_and, and_true, false_and, and_false, recS_1, recS_4, recS_5, recS_6, gN_rec, gA_sx, iIt0, iIt1] at hz5
            refine r_imul hx hb dX6_endYear_52 ?_
            refine r_icmp_ge (tgt := 73) hx hb ⟨by omega, by omega⟩ ⟨by omega, by omega⟩ dX6_endYear_53 (by decide) (fun c6 => ?_) (fun c6 => ?_)
            · refine lv_aload_n hx hb dX6_endYear_73 rfl (lv_at hl 2 rfl) ?_
              refine r_gR C0 hW (show 10 < 11 ∧ 0 < bs 10 from ⟨by decide, by decide⟩) rfl rfl hiX6 (k := 1) (by decide) kf_X6_7 rfl rfl rfl dX6_endYear_74 ?_
              refine r_iconst hx hb dX6_endYear_77 ?_
              refine r_iconst hx hb dX6_endYear_78 ?_
              refine r_ist C0 hW (show 10 < 11 ∧ 1 < bs 10 from ⟨by decide, by decide⟩) (fun A => rfl) (n := 941) (v := iI 0) (by omega) (by omega) (by decide) dX6_endYear_79 (fun H1 locs1 hW => ?_)
              obtain ⟨w7, hw7⟩ : ∃ wq9 : gW, wq9 = up wu 10 (sA (wu 10) 1 4 (iI 0)) := ⟨_, rfl⟩
              rw [← hw7] at hW
              refine lv_aload_n hx hb dX6_endYear_80 rfl (lv_at hl 2 rfl) ?_
              refine r_gR C0 hW (show 10 < 11 ∧ 0 < bs 10 from ⟨by decide, by decide⟩) rfl rfl hiX6 (k := 1) (by decide) kf_X6_7 rfl rfl rfl dX6_endYear_81 ?_
              refine r_bipush hx hb dX6_endYear_84 (by decide) ?_
              refine r_iconst hx hb dX6_endYear_86 ?_
              refine r_ist C0 hW (show 10 < 11 ∧ 1 < bs 10 from ⟨by decide, by decide⟩) (fun A => rfl) (n := 941) (v := iI 0) (by omega) (by omega) (by decide) dX6_endYear_87 (fun H1 locs1 hW => ?_)
              obtain ⟨w8, hw8⟩ : ∃ wq9 : gW, wq9 = up w7 10 (sA (w7 10) 1 7 (iI 0)) := ⟨_, rfl⟩
              rw [← hw8] at hW
              refine lv_aload_n hx hb dX6_endYear_88 rfl (lv_at hl 2 rfl) ?_
              refine r_gR C0 hW (show 10 < 11 ∧ 0 < bs 10 from ⟨by decide, by decide⟩) rfl rfl hiX6 (k := 1) (by decide) kf_X6_7 rfl rfl rfl dX6_endYear_89 ?_
              refine r_iconst hx hb dX6_endYear_92 ?_
              refine r_iconst hx hb dX6_endYear_93 ?_
              refine r_ist C0 hW (show 10 < 11 ∧ 1 < bs 10 from ⟨by decide, by decide⟩) (fun A => rfl) (n := 941) (v := iI 0) (by omega) (by omega) (by decide) dX6_endYear_94 (fun H1 locs1 hW => ?_)
              obtain ⟨w9, hw9⟩ : ∃ wq9 : gW, wq9 = up w8 10 (sA (w8 10) 1 2 (iI 0)) := ⟨_, rfl⟩
              rw [← hw9] at hW
              refine lv_aload_n hx hb dX6_endYear_95 rfl (lv_at hl 2 rfl) ?_
              refine r_gR C0 hW (show 10 < 11 ∧ 0 < bs 10 from ⟨by decide, by decide⟩) rfl rfl hiX6 (k := 1) (by decide) kf_X6_7 rfl rfl rfl dX6_endYear_96 ?_
              refine r_iconst hx hb dX6_endYear_99 ?_
              refine lv_dup2_11 hx hb dX6_endYear_100 rfl rfl ?_
              refine r_ild C0 hW (show 10 < 11 ∧ 1 < bs 10 from ⟨by decide, by decide⟩) rfl (n := 941) (by omega) (by omega) (by omega) dX6_endYear_101 (fun z10 (hz10 : z10 = gA (w9 10) 1 3) rz10 => ?_)
              have rz10a := rz10.1
              have rz10b := rz10.2
              try simp (decide := true) only [hw9, hw8, hw7, hwu, up_s, gA_s, gA_sn, gN_sF, gA_sS, gN_sS, sA_st, sF_sF, sF_sS, sS_sS, arr_s, arr_n, arr_S, gA_aI, if_true, if_false, true_and, and_true, false_and, and_false, recS_1, recS_4, recS_5, recS_6, gN_rec, gA_sx, iIt0, iIt1] at hz10
              refine r_iconst hx hb dX6_endYear_102 ?_
              refine r_iadd hx hb dX6_endYear_103 ?_
              refine r_ist C0 hW (show 10 < 11 ∧ 1 < bs 10 from ⟨by decide, by decide⟩) (fun A => rfl) (n := 941) (v := iI (z10 + 1)) (by omega) (by omega) (by decide) dX6_endYear_104 (fun H1 locs1 hW => ?_)
              obtain ⟨w11, hw11⟩ : ∃ wq9 : gW, wq9 = up w9 10 (sA (w9 10) 1 3 (iI (z10 + 1))) := ⟨_, rfl⟩
              rw [← hw11] at hW
              have ey2 : y2 = 4 * aI ((w 10).1 1) 7 := by omega
              have e99 : aI (st (st (st (selG (selG ((w 10).1 1) (fun _ => iI 0) 101  461) (fun _ => iI 0) 461  (461 + y2)) 4 (iI 0)) 7 (iI 0)) 2 (iI 0)) 3 = aI ((w 10).1 1) 3 := by rw [aI_n _ _ (by decide), aI_n _ _ (by decide), aI_n _ _ (by decide), aI_so _ _ (by omega), aI_so _ _ (by omega)]
              have hE9 : w11 = up w 10 (sF (recS (sS (w 10) 0 0 (iI 0))) 1 (y0A ((w 10).1 1))) := by simp (decide := true) only [hw11, hw9, hw8, hw7, hwu, up_up, up_s, gA_s, gA_sn, gN_sF, gA_sS, gN_sS, sA_st, sF_sF, sF_sS, sS_sS, arr_s, arr_n, arr_S, gA_aI, if_true, if_false, true_and, and_true, false_and, and_false, recS_1, recS_4, recS_5, recS_6, gN_rec, gA_sx, iIt0, iIt1, hz3, hz5, hz10, e99]; rw [ey2]; rfl
              refine r_iconst hx hb dX6_endYear_105 ?_
              refine lv_istore_n (lv' := [(2, .int (iI 0)), (1, .int (iI z3)), (0, .ref (ad G 10 0))]) hx hb dX6_endYear_106 rfl hl (by decide) rfl (fun ls hl => ?_)
              have hL107 : ∀ (n : Nat) (u3 : Int) (wz : gW) (hwz : wz = up w 10 (sF (recS (sS (w 10) 0 0 (iI 0))) 1 (uA (y0A ((w 10).1 1)) u3))) (H0 : Heap) (locs0 : List Loc) (ls : Array Slot) (hm : 10 - u3 < (n : Int)) (i107_0 : 0 ≤ u3) (i107_1 : u3 ≤ 10) (hW : wo G wz s H0 locs0) (hl : lv_has ls 3 [(2, .int (iI u3)), (1, .int (iI z3)), (0, .ref (ad G 10 0))]), W p l e (rmL 1 22) s m args below meth c H0 locs0 0 0 (QI G (po_X6_endYear w) below args s) (F0 m 107 ls []) := by
                intro n
                induction n with
                | zero =>
                  intro u3 wz hwz H0 locs0 ls hm i107_0 i107_1 hW hl
                  exact absurd hm (by omega)
                | succ n ih107 =>
                  intro u3 wz hwz H0 locs0 ls hm i107_0 i107_1 hW hl
                  refine lv_iload_n hx hb dX6_endYear_107 rfl (lv_at hl 0 rfl) ?_
                  refine r_bipush hx hb dX6_endYear_108 (by decide) ?_
                  refine r_icmp_ge (tgt := 133) hx hb ⟨by omega, by omega⟩ ⟨by omega, by omega⟩ dX6_endYear_110 (by decide) (fun c12 => ?_) (fun c12 => ?_)
                  · rw [show u3 = 10 from by omega] at hwz
                    refine r_iconst hx hb dX6_endYear_133 ?_
                    refine lv_istore_n (lv' := [(2, .int (iI 0)), (1, .int (iI z3)), (0, .ref (ad G 10 0))]) hx hb dX6_endYear_134 rfl hl (by decide) rfl (fun ls hl => ?_)
                    have hL135 : ∀ (n : Nat) (y3 : Int) (wy : gW) (hwy : wy = up w 10 (sF (recS (sS (w 10) 0 0 (iI 0))) 1 (rA (uA (y0A ((w 10).1 1)) 10) y3))) (H0 : Heap) (locs0 : List Loc) (ls : Array Slot) (hm : 20 - y3 < (n : Int)) (i135_0 : 0 ≤ y3) (i135_1 : y3 ≤ 20) (hW : wo G wy s H0 locs0) (hl : lv_has ls 3 [(2, .int (iI y3)), (1, .int (iI z3)), (0, .ref (ad G 10 0))]), W p l e (rmL 1 22) s m args below meth c H0 locs0 0 0 (QI G (po_X6_endYear w) below args s) (F0 m 135 ls []) := by
                      intro n
                      induction n with
                      | zero =>
                        intro y3 wy hwy H0 locs0 ls hm i135_0 i135_1 hW hl
                        exact absurd hm (by omega)
                      | succ n ih135 =>
                        intro y3 wy hwy H0 locs0 ls hm i135_0 i135_1 hW hl
                        refine lv_iload_n hx hb dX6_endYear_135 rfl (lv_at hl 0 rfl) ?_
                        refine r_bipush hx hb dX6_endYear_136 (by decide) ?_
                        refine r_icmp_ge (tgt := 166) hx hb ⟨by omega, by omega⟩ ⟨by omega, by omega⟩ dX6_endYear_138 (by decide) (fun c13 => ?_) (fun c13 => ?_)
                        · refine lv_iload_n hx hb dX6_endYear_166 rfl (lv_at hl 1 rfl) ?_
                          exact r_iret C0 hW rz3 (by first | exact ⟨(by first | assumption | omega | trivial), (by simp only [hz3]), (by rw [hwy, show y3 = 20 from by omega]; rfl)⟩) dX6_endYear_167
                        · refine lv_aload_n hx hb dX6_endYear_141 rfl (lv_at hl 2 rfl) ?_
                          refine r_gR C0 hW (show 10 < 11 ∧ 0 < bs 10 from ⟨by decide, by decide⟩) rfl rfl hiX6 (k := 1) (by decide) kf_X6_7 rfl rfl rfl dX6_endYear_142 ?_
                          refine r_bipush hx hb dX6_endYear_145 (by decide) ?_
                          refine r_iconst hx hb dX6_endYear_147 ?_
                          refine lv_iload_n hx hb dX6_endYear_148 rfl (lv_at hl 0 rfl) ?_
                          refine r_imul hx hb dX6_endYear_149 ?_
                          refine r_iadd hx hb dX6_endYear_150 ?_
                          refine r_iconst hx hb dX6_endYear_151 ?_
                          refine r_iadd hx hb dX6_endYear_152 ?_
                          refine lv_aload_n hx hb dX6_endYear_153 rfl (lv_at hl 2 rfl) ?_
                          refine lv_iload_n hx hb dX6_endYear_154 rfl (lv_at hl 0 rfl) ?_
                          refine r_iconst hx hb dX6_endYear_155 ?_
                          refine k_Vi (j := 10) (k0 := 0) C0 hW (c_X6_ofPlot l G wy y3 1 ⟨by omega, by omega⟩ ⟨by omega, by omega⟩ (by omega)) km_X6_77 ki_X6_ofPlot ke_X6_ofPlot kn_X6 kc_X6_ofPlot rfl hdV_X6_ofPlot ⟨by decide, by decide⟩ (show 10 < 11 ∧ 0 < bs 10 from ⟨by decide, by decide⟩) rfl rfl rfl hl.1 rfl (Nat.le_of_ble_eq_true rfl) dX6_endYear_156 (fun z14 w14 H1 locs1 rz14 hp14 hW => ?_)
                          obtain ⟨hp14, hq14⟩ := hp14
                          subst hq14
                          have rz14a := rz14.1
                          have rz14b := rz14.2
                          try simp (decide := true) only [hwy, up_s, gA_s, gA_sn, gN_sF, gA_sS, gN_sS, sA_st, sF_sF, sF_sS, sS_sS, arr_s, arr_n, arr_S, gA_aI, if_true, if_false, true_and, and_true, false_and, and_false, recS_1, recS_4, recS_5, recS_6, gN_rec, gA_sx, iIt0, iIt1] at hp14; (try simp only [hz3] at hp14)
                          refine r_ist C0 hW (show 10 < 11 ∧ 1 < bs 10 from ⟨by decide, by decide⟩) (fun A => rfl) (n := 941) (v := iI z14) (by omega) (by omega) (by decide) dX6_endYear_159 (fun H1 locs1 hW => ?_)
                          obtain ⟨w15, hw15⟩ : ∃ wq9 : gW, wq9 = up wy 10 (sA (wy 10) 1 ((41 + (3 * y3)) + 2) (iI z14)) := ⟨_, rfl⟩
                          rw [← hw15] at hW
                          refine r_iinc (lv' := [(2, .int (iI (y3 + 1))), (1, .int (iI z3)), (0, .ref (ad G 10 0))]) hx hb dX6_endYear_160 hl (k := 0) rfl (by decide) rfl (fun ls hl => ?_)
                          refine lv_goto (tgt := 135) hx hb dX6_endYear_163 (by decide) ?_
                          exact ih135 (y3 + 1) _ (by simp (decide := true) only [hw15, hwy, up_up, up_s, sA_st, arr_S, arr_s, sF_sS, sF_sF]; rw [rA_s _ (by omega), show iI z14 = uA (y0A ((w 10).1 1)) 10 (41 + 3 * y3 + 1) from by rw [hp14, aI_i, rA_r]]) _ _ ls (by omega) (by omega) (by omega) hW (lv_sub hl [0, 1, 2] rfl)
                    exact hL135 21 0 _ (by rw [rA_0]; exact hwz) _ _ ls (by omega) (by omega) (by omega) hW (lv_sub hl [0, 1, 2] rfl)
                  · refine lv_aload_n hx hb dX6_endYear_113 rfl (lv_at hl 2 rfl) ?_
                    refine r_gR C0 hW (show 10 < 11 ∧ 0 < bs 10 from ⟨by decide, by decide⟩) rfl rfl hiX6 (k := 1) (by decide) kf_X6_7 rfl rfl rfl dX6_endYear_114 ?_
                    refine r_bipush hx hb dX6_endYear_117 (by decide) ?_
                    refine r_iconst hx hb dX6_endYear_119 ?_
                    refine lv_iload_n hx hb dX6_endYear_120 rfl (lv_at hl 0 rfl) ?_
                    refine r_imul hx hb dX6_endYear_121 ?_
                    refine r_iadd hx hb dX6_endYear_122 ?_
                    refine r_iconst hx hb dX6_endYear_123 ?_
                    refine r_iadd hx hb dX6_endYear_124 ?_
                    refine r_iconst hx hb dX6_endYear_125 ?_
                    refine r_ist C0 hW (show 10 < 11 ∧ 1 < bs 10 from ⟨by decide, by decide⟩) (fun A => rfl) (n := 941) (v := iI 0) (by omega) (by omega) (by decide) dX6_endYear_126 (fun H1 locs1 hW => ?_)
                    obtain ⟨w16, hw16⟩ : ∃ wq9 : gW, wq9 = up wz 10 (sA (wz 10) 1 ((11 + (3 * u3)) + 1) (iI 0)) := ⟨_, rfl⟩
                    rw [← hw16] at hW
                    refine r_iinc (lv' := [(2, .int (iI (u3 + 1))), (1, .int (iI z3)), (0, .ref (ad G 10 0))]) hx hb dX6_endYear_127 hl (k := 0) rfl (by decide) rfl (fun ls hl => ?_)
                    refine lv_goto (tgt := 107) hx hb dX6_endYear_130 (by decide) ?_
                    exact ih107 (u3 + 1) _ (by simp (decide := true) only [hw16, hwz, up_up, up_s, sA_st, arr_S, arr_s, sF_sS, sF_sF]; rw [uA_s _ (by omega)]) _ _ ls (by omega) (by omega) (by omega) hW (lv_sub hl [0, 1, 2] rfl)
              exact hL107 11 0 _ (by rw [uA_0]; exact hE9) _ _ ls (by omega) (by omega) (by omega) hW (lv_sub hl [0, 1, 2] rfl)
            · refine lv_aload_n hx hb dX6_endYear_56 rfl (lv_at hl 2 rfl) ?_
              refine r_gR C0 hW (show 10 < 11 ∧ 0 < bs 10 from ⟨by decide, by decide⟩) rfl rfl hiX6 (k := 1) (by decide) kf_X6_7 rfl rfl rfl dX6_endYear_57 ?_
              refine r_sipush hx hb dX6_endYear_60 (by decide) ?_
              refine lv_iload_n hx hb dX6_endYear_63 rfl (lv_at hl 0 rfl) ?_
              refine r_iadd hx hb dX6_endYear_64 ?_
              refine r_iconst hx hb dX6_endYear_65 ?_
              refine r_ist C0 hW (show 10 < 11 ∧ 1 < bs 10 from ⟨by decide, by decide⟩) (fun A => rfl) (n := 941) (v := iI 0) (by omega) (by omega) (by decide) dX6_endYear_66 (fun H1 locs1 hW => ?_)
              obtain ⟨w17, hw17⟩ : ∃ wq9 : gW, wq9 = up wu 10 (sA (wu 10) 1 (461 + y2) (iI 0)) := ⟨_, rfl⟩
              rw [← hw17] at hW
              refine r_iinc (lv' := [(2, .int (iI (y2 + 1))), (1, .int (iI z3)), (0, .ref (ad G 10 0))]) hx hb dX6_endYear_67 hl (k := 0) rfl (by decide) rfl (fun ls hl => ?_)
              refine lv_goto (tgt := 43) hx hb dX6_endYear_70 (by decide) ?_
              exact ih43 (y2 + 1) _ (by simp (decide := true) only [hw17, hwu, up_up, up_s, sA_st, arr_S, arr_s, sF_sS, sF_sF]; rw [show 461 + (y2 + 1) = 461 + y2 + 1 from by omega, selG_s _ _ (by omega)]) _ _ ls (by omega) (by omega) (by omega) hW (lv_sub hl [0, 1, 2] rfl)
        exact hL43 481 0 _ (by rw [selG_0 (selG ((w 10).1 1) (fun _ => iI 0) 101  461) _ (by omega)]; exact hwv) _ _ ls (by omega) (by omega) (by omega) hW (lv_sub hl [0, 1, 2] rfl)
      · refine lv_aload_n hx hb dX6_endYear_25 rfl (lv_at hl 2 rfl) ?_
        refine r_gR C0 hW (show 10 < 11 ∧ 0 < bs 10 from ⟨by decide, by decide⟩) rfl rfl hiX6 (k := 1) (by decide) kf_X6_7 rfl rfl rfl dX6_endYear_26 ?_
        refine r_bipush hx hb dX6_endYear_29 (by decide) ?_
        refine lv_iload_n hx hb dX6_endYear_31 rfl (lv_at hl 0 rfl) ?_
        refine r_iadd hx hb dX6_endYear_32 ?_
        refine r_iconst hx hb dX6_endYear_33 ?_
        refine r_ist C0 hW (show 10 < 11 ∧ 1 < bs 10 from ⟨by decide, by decide⟩) (fun A => rfl) (n := 941) (v := iI 0) (by omega) (by omega) (by decide) dX6_endYear_34 (fun H1 locs1 hW => ?_)
        obtain ⟨w18, hw18⟩ : ∃ wq9 : gW, wq9 = up wv 10 (sA (wv 10) 1 (101 + x2) (iI 0)) := ⟨_, rfl⟩
        rw [← hw18] at hW
        refine r_iinc (lv' := [(2, .int (iI (x2 + 1))), (1, .int (iI z3)), (0, .ref (ad G 10 0))]) hx hb dX6_endYear_35 hl (k := 0) rfl (by decide) rfl (fun ls hl => ?_)
        refine lv_goto (tgt := 18) hx hb dX6_endYear_38 (by decide) ?_
        exact ih18 (x2 + 1) _ (by simp (decide := true) only [hw18, hwv, hw2, hw1, up_up, up_s, sA_st, arr_S, arr_s, sF_sS, sF_sF]; rw [show 101 + (x2 + 1) = 101 + x2 + 1 from by omega, selG_s _ _ (by omega)]) _ _ ls (by omega) (by omega) (by omega) hW (lv_sub hl [0, 1, 2] rfl)
  exact hL18 361 0 _ (by rw [selG_0 _ _ (by omega), show sF (recS (sS (w 10) 0 0 (iI 0))) 1 ((w 10).1 1) = (recS (sS (w 10) 0 0 (iI 0))) from sF_id _ _]; simp (decide := true) only [hw2, hw1, up_up, up_s]) _ _ ls (by omega) (by omega) (by omega) hW (lv_sub hl [0, 1, 2] rfl)
