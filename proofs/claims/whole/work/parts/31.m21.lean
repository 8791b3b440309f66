/-- X6_records: its end -/
def po_X6_records (w : gW) : gW → Prop := fun w1 => w1 = up w 10 (recS (w 10))
theorem hdV_X6_records : yX6_records.cls = RX6 ∧ yX6_records.cls ≠ "java/lang/invoke/MethodHandle" ∧ yX6_records.cls ≠ "java/lang/invoke/VarHandle" ∧ (parseMethodDescriptor yX6_records.desc).map (fun d => d.parameters.length) = some 0 := by decide +kernel
set_option maxHeartbeats 4000000 in
set_option maxRecDepth 100000 in
theorem c_X6_records (l : Launch) (G : gG) (w : gW) (hm9 : 0 ≤ gN (w 10) 0 4 ∧ gN (w 10) 0 4 ≤ 4) : mV l G yX6_records (wU yX6_records cX6_records 2 none) (rmL 0 0) [.ref (ad G 10 0)] w (po_X6_records w) := by
  refine mV_of (by decide +kernel) (Nat.le_of_ble_eq_true rfl) (fun p e s m args below meth c ls C0 hW hl => ?_)
  have hl : lv_has ls 2 [(0, .ref (ad G 10 0))] := hl
  have hx := C0.hx
  have hb := C0.hb
  refine lv_aload_n hx hb dX6_records_0 rfl (lv_at hl 0 rfl) ?_
  refine r_gI C0 hW (show 10 < 11 ∧ 0 < bs 10 from ⟨by decide, by decide⟩) rfl rfl hiX6 (k := 4) (by decide) kf_X6_40 rfl rfl rfl dX6_records_1 (fun z1 (hz1 : z1 = gN (w 10) 0 4) rz1 => ?_)
  have rz1a := rz1.1
  have rz1b := rz1.2
  try simp (decide := true) only [id, up_s, gA_s, gA_sn, gN_sF, gA_sS, gN_sS, sA_st, sF_sF, sF_sS, sS_sS, arr_s, arr_n, arr_S, gA_aI, if_true, if_false, true_and, and_true, false_and, and_false] at hz1
  refine r_iconst hx hb dX6_records_4 ?_
  refine r_icmp_ne (tgt := 49) hx hb rz1 ⟨by omega, by omega⟩ dX6_records_5 (by decide) (fun c2 => ?_) (fun c2 => ?_)
  · have hm4 : ¬ gN (w 10) 0 4 = 4 := by omega
    have hmb : many (w 10) = gN (w 10) 0 4 := by unfold many; rw [if_neg hm4]
    have hmn : gN (w 10) 0 4 = many (w 10) := by omega
    have hA1 : (w 10).1 1 = (w 10).1 1 := rfl
    have h3 : savA (w 10) = (w 10).1 3 := by unfold savA; rw [if_neg hm4]
    have hN : ∀ X v, sS (sF (w 10) 3 X) 0 4 v = sS (sF (w 10) 3 X) 0 4 v := fun _ _ => rfl
    have hU : ∀ M, up w 10 M = up w 10 M := fun _ => rfl
    refine r_iconst hx hb dX6_records_49 ?_
    refine lv_istore_n (lv' := [(1, .int (iI 0)), (0, .ref (ad G 10 0))]) hx hb dX6_records_50 rfl hl (by decide) rfl (fun ls hl => ?_)
    have hL51 : ∀ (n : Nat) (x1 : Int) (wu : gW) (hwu : wu = up w 10 (sF (w 10) 3 (selG (savA (w 10)) (fun i => (w 10).1 1 (i - 941 * many (w 10))) (941 * many (w 10)) (941 * many (w 10) + x1)))) (H0 : Heap) (locs0 : List Loc) (ls : Array Slot) (hm : 941 - x1 < (n : Int)) (i51_0 : 0 ≤ x1) (i51_1 : x1 ≤ 941) (hW : wo G wu s H0 locs0) (hl : lv_has ls 2 [(1, .int (iI x1)), (0, .ref (ad G 10 0))]), W p l e (rmL 0 0) s m args below meth c H0 locs0 0 0 (QV G (po_X6_records w) below args s) (F0 m 51 ls []) := by
      intro n
      induction n with
      | zero =>
        intro x1 wu hwu H0 locs0 ls hm i51_0 i51_1 hW hl
        exact absurd hm (by omega)
      | succ n ih51 =>
        intro x1 wu hwu H0 locs0 ls hm i51_0 i51_1 hW hl
        refine lv_iload_n hx hb dX6_records_51 rfl (lv_at hl 0 rfl) ?_
        refine r_sipush hx hb dX6_records_52 (by decide) ?_
        refine r_icmp_ge (tgt := 85) hx hb ⟨by omega, by omega⟩ ⟨by omega, by omega⟩ dX6_records_55 (by decide) (fun c3 => ?_) (fun c3 => ?_)
        · refine lv_aload_n hx hb dX6_records_85 rfl (lv_at hl 1 rfl) ?_
          refine lv_dup hx hb dX6_records_86 rfl ?_
          refine r_gI C0 hW (show 10 < 11 ∧ 0 < bs 10 from ⟨by decide, by decide⟩) rfl rfl hiX6 (k := 4) (by decide) kf_X6_40 rfl rfl rfl dX6_records_87 (fun z4 (hz4 : z4 = gN (wu 10) 0 4) rz4 => ?_)
          have rz4a := rz4.1
          have rz4b := rz4.2
          try simp (decide := true) only [hwu, up_s, gA_s, gA_sn, gN_sF, gA_sS, gN_sS, sA_st, sF_sF, sF_sS, sS_sS, arr_s, arr_n, arr_S, gA_aI, if_true, if_false, true_and, and_true, false_and, and_false] at hz4
          refine r_iconst hx hb dX6_records_90 ?_
          refine r_iadd hx hb dX6_records_91 ?_
          refine r_pI C0 hW (show 10 < 11 ∧ 0 < bs 10 from ⟨by decide, by decide⟩) rfl rfl hiX6 tyX6 tyX6_ok nmX6 (k := 4) (v := iI (z4 + 1)) (by decide) kf_X6_40 rfl rfl rfl (tyX6_ok 4 (by decide)) rfl rfl (by simp) rfl dX6_records_92 (fun H1 locs1 hW => ?_)
          obtain ⟨w5, hw5⟩ : ∃ wq9 : gW, wq9 = up wu 10 (sS (wu 10) 0 4 (iI (z4 + 1))) := ⟨_, rfl⟩
          rw [← hw5] at hW
          exact r_vret C0 hW (by unfold po_X6_records recS; simp only [hw5, hwu, up_up, up_s]; rw [hU, hN, show x1 = 941 from by omega, show z4 = many (w 10) from by omega]) dX6_records_95
        · refine lv_aload_n hx hb dX6_records_58 rfl (lv_at hl 1 rfl) ?_
          refine r_gR C0 hW (show 10 < 11 ∧ 0 < bs 10 from ⟨by decide, by decide⟩) rfl rfl hiX6 (k := 3) (by decide) kf_X6_16 rfl rfl rfl dX6_records_59 ?_
          refine r_sipush hx hb dX6_records_62 (by decide) ?_
          refine lv_aload_n hx hb dX6_records_65 rfl (lv_at hl 1 rfl) ?_
          refine r_gI C0 hW (show 10 < 11 ∧ 0 < bs 10 from ⟨by decide, by decide⟩) rfl rfl hiX6 (k := 4) (by decide) kf_X6_40 rfl rfl rfl dX6_records_66 (fun z6 (hz6 : z6 = gN (wu 10) 0 4) rz6 => ?_)
          have rz6a := rz6.1
          have rz6b := rz6.2
          try simp (decide := true) only [hwu, up_s, gA_s, gA_sn, gN_sF, gA_sS, gN_sS, sA_st, sF_sF, sF_sS, sS_sS, arr_s, arr_n, arr_S, gA_aI, if_true, if_false, true_and, and_true, false_and, and_false] at hz6
          refine r_imul hx hb dX6_records_69 ?_
          refine lv_iload_n hx hb dX6_records_70 rfl (lv_at hl 0 rfl) ?_
          refine r_iadd hx hb dX6_records_71 ?_
          refine lv_aload_n hx hb dX6_records_72 rfl (lv_at hl 1 rfl) ?_
          refine r_gR C0 hW (show 10 < 11 ∧ 0 < bs 10 from ⟨by decide, by decide⟩) rfl rfl hiX6 (k := 1) (by decide) kf_X6_7 rfl rfl rfl dX6_records_73 ?_
          refine lv_iload_n hx hb dX6_records_76 rfl (lv_at hl 0 rfl) ?_
          refine r_ild C0 hW (show 10 < 11 ∧ 1 < bs 10 from ⟨by decide, by decide⟩) rfl (n := 941) (by omega) (by omega) (by omega) dX6_records_77 (fun z7 (hz7 : z7 = gA (wu 10) 1 x1) rz7 => ?_)
          have rz7a := rz7.1
          have rz7b := rz7.2
          try simp (decide := true) only [hwu, up_s, gA_s, gA_sn, gN_sF, gA_sS, gN_sS, sA_st, sF_sF, sF_sS, sS_sS, arr_s, arr_n, arr_S, gA_aI, if_true, if_false, true_and, and_true, false_and, and_false] at hz7
          refine r_ist C0 hW (show 10 < 11 ∧ 3 < bs 10 from ⟨by decide, by decide⟩) (fun A => rfl) (n := 3764) (v := iI z7) (by omega) (by omega) (by decide) dX6_records_78 (fun H1 locs1 hW => ?_)
          obtain ⟨w8, hw8⟩ : ∃ wq9 : gW, wq9 = up wu 10 (sA (wu 10) 3 ((941 * z6) + x1) (iI z7)) := ⟨_, rfl⟩
          rw [← hw8] at hW
          refine r_iinc (lv' := [(1, .int (iI (x1 + 1))), (0, .ref (ad G 10 0))]) hx hb dX6_records_79 hl (k := 0) rfl (by decide) rfl (fun ls hl => ?_)
          refine lv_goto (tgt := 51) hx hb dX6_records_82 (by decide) ?_
          exact ih51 (x1 + 1) _ (by simp only [hw8, hwu, up_up, up_s, sA_st, arr_s, sF_sF, show z6 = many (w 10) from by omega]; rw [show 941 * many (w 10) + (x1 + 1) = 941 * many (w 10) + x1 + 1 from by omega, selG_s _ _ (by omega), show 941 * many (w 10) + x1 - 941 * many (w 10) = x1 from by omega, show iI z7 = (w 10).1 1 x1 from by rw [hz7, hA1, aI_i]]) _ _ ls (by omega) (by omega) (by omega) hW (lv_sub hl [0, 1] rfl)
    exact hL51 942 0 _ (by rw [selG_0 _ _ (by omega), h3, sF_id, up_id]) _ _ ls (by omega) (by omega) (by omega) hW (lv_sub hl [0, 1] rfl)
  · have hm4 : gN (w 10) 0 4 = 4 := by omega
    have hmb : many (w 10) = 3 := by unfold many; rw [if_pos hm4]
    refine r_iconst hx hb dX6_records_8 ?_
    refine lv_istore_n (lv' := [(1, .int (iI 0)), (0, .ref (ad G 10 0))]) hx hb dX6_records_9 rfl hl (by decide) rfl (fun ls hl => ?_)
    have hL10 : ∀ (n : Nat) (x1 : Int) (wv : gW) (hwv : wv = up w 10 (sF (w 10) 3 (selG ((w 10).1 3) (fun i => (w 10).1 3 (i + 941)) 0 x1))) (H0 : Heap) (locs0 : List Loc) (ls : Array Slot) (hm : 2823 - x1 < (n : Int)) (i10_0 : 0 ≤ x1) (i10_1 : x1 ≤ 2823) (hW : wo G wv s H0 locs0) (hl : lv_has ls 2 [(1, .int (iI x1)), (0, .ref (ad G 10 0))]), W p l e (rmL 0 0) s m args below meth c H0 locs0 0 0 (QV G (po_X6_records w) below args s) (F0 m 10 ls []) := by
      intro n
      induction n with
      | zero =>
        intro x1 wv hwv H0 locs0 ls hm i10_0 i10_1 hW hl
        exact absurd hm (by omega)
      | succ n ih10 =>
        intro x1 wv hwv H0 locs0 ls hm i10_0 i10_1 hW hl
        refine lv_iload_n hx hb dX6_records_10 rfl (lv_at hl 0 rfl) ?_
        refine r_sipush hx hb dX6_records_11 (by decide) ?_
        refine r_icmp_ge (tgt := 39) hx hb ⟨by omega, by omega⟩ ⟨by omega, by omega⟩ dX6_records_14 (by decide) (fun c9 => ?_) (fun c9 => ?_)
        · have ex1 : x1 = 2823 := by omega
          refine lv_aload_n hx hb dX6_records_39 rfl (lv_at hl 1 rfl) ?_
          refine lv_dup hx hb dX6_records_40 rfl ?_
          refine r_gI C0 hW (show 10 < 11 ∧ 0 < bs 10 from ⟨by decide, by decide⟩) rfl rfl hiX6 (k := 4) (by decide) kf_X6_40 rfl rfl rfl dX6_records_41 (fun z10 (hz10 : z10 = gN (wv 10) 0 4) rz10 => ?_)
          have rz10a := rz10.1
          have rz10b := rz10.2
          try simp (decide := true) only [hwv, up_s, gA_s, gA_sn, gN_sF, gA_sS, gN_sS, sA_st, sF_sF, sF_sS, sS_sS, arr_s, arr_n, arr_S, gA_aI, if_true, if_false, true_and, and_true, false_and, and_false] at hz10
          refine r_iconst hx hb dX6_records_44 ?_
          refine r_isub hx hb dX6_records_45 ?_
          refine r_pI C0 hW (show 10 < 11 ∧ 0 < bs 10 from ⟨by decide, by decide⟩) rfl rfl hiX6 tyX6 tyX6_ok nmX6 (k := 4) (v := iI (z10 - 1)) (by decide) kf_X6_40 rfl rfl rfl (tyX6_ok 4 (by decide)) rfl rfl (by simp) rfl dX6_records_46 (fun H1 locs1 hW => ?_)
          obtain ⟨w11, hw11⟩ : ∃ wq9 : gW, wq9 = up wv 10 (sS (wv 10) 0 4 (iI (z10 - 1))) := ⟨_, rfl⟩
          rw [← hw11] at hW
          have hmn : gN (w11 10) 0 4 = many (w 10) := by rw [hmb]; simp (decide := true) only [hw11, hwv, up_s, gA_s, gA_sn, gN_sF, gA_sS, gN_sS, sA_st, sF_sF, sF_sS, sS_sS, arr_s, arr_n, arr_S, gA_aI, if_true, if_false, true_and, and_true, false_and, and_false]; rw [gv_i (by omega) (by omega)]; omega
          have hA1 : (w11 10).1 1 = (w 10).1 1 := by simp (decide := true) only [hw11, hwv, up_s, gA_s, gA_sn, gN_sF, gA_sS, gN_sS, sA_st, sF_sF, sF_sS, sS_sS, arr_s, arr_n, arr_S, gA_aI, if_true, if_false, true_and, and_true, false_and, and_false]
          have h3 : savA (w 10) = (w11 10).1 3 := by unfold savA; rw [if_pos hm4]; simp (decide := true) only [hw11, hwv, ex1, up_s, gA_s, gA_sn, gN_sF, gA_sS, gN_sS, sA_st, sF_sF, sF_sS, sS_sS, arr_s, arr_n, arr_S, gA_aI, if_true, if_false, true_and, and_true, false_and, and_false]
          have hN : ∀ X v, sS (sF (w11 10) 3 X) 0 4 v = sS (sF (w 10) 3 X) 0 4 v := fun X v => by simp (decide := true) only [hw11, hwv, up_s, gA_s, gA_sn, gN_sF, gA_sS, gN_sS, sA_st, sF_sF, sF_sS, sS_sS, arr_s, arr_n, arr_S, gA_aI, if_true, if_false, true_and, and_true, false_and, and_false]
          have hU : ∀ M, up w11 10 M = up w 10 M := fun M => by simp only [hw11, hwv, up_up]
          refine r_iconst hx hb dX6_records_49 ?_
          refine lv_istore_n (lv' := [(1, .int (iI 0)), (0, .ref (ad G 10 0))]) hx hb dX6_records_50 rfl hl (by decide) rfl (fun ls hl => ?_)
          have hL51 : ∀ (n : Nat) (x1 : Int) (wu : gW) (hwu : wu = up w11 10 (sF (w11 10) 3 (selG (savA (w 10)) (fun i => (w 10).1 1 (i - 941 * many (w 10))) (941 * many (w 10)) (941 * many (w 10) + x1)))) (H0 : Heap) (locs0 : List Loc) (ls : Array Slot) (hm : 941 - x1 < (n : Int)) (i51_0 : 0 ≤ x1) (i51_1 : x1 ≤ 941) (hW : wo G wu s H0 locs0) (hl : lv_has ls 2 [(1, .int (iI x1)), (0, .ref (ad G 10 0))]), W p l e (rmL 0 0) s m args below meth c H0 locs0 0 0 (QV G (po_X6_records w) below args s) (F0 m 51 ls []) := by
            intro n
            induction n with
            | zero =>
              intro x1 wu hwu H0 locs0 ls hm i51_0 i51_1 hW hl
              exact absurd hm (by omega)
            | succ n ih51 =>
              intro x1 wu hwu H0 locs0 ls hm i51_0 i51_1 hW hl
              refine lv_iload_n hx hb dX6_records_51 rfl (lv_at hl 0 rfl) ?_
              refine r_sipush hx hb dX6_records_52 (by decide) ?_
              refine r_icmp_ge (tgt := 85) hx hb ⟨by omega, by omega⟩ ⟨by omega, by omega⟩ dX6_records_55 (by decide) (fun c12 => ?_) (fun c12 => ?_)
              · refine lv_aload_n hx hb dX6_records_85 rfl (lv_at hl 1 rfl) ?_
                refine lv_dup hx hb dX6_records_86 rfl ?_
                refine r_gI C0 hW (show 10 < 11 ∧ 0 < bs 10 from ⟨by decide, by decide⟩) rfl rfl hiX6 (k := 4) (by decide) kf_X6_40 rfl rfl rfl dX6_records_87 (fun z13 (hz13 : z13 = gN (wu 10) 0 4) rz13 => ?_)
                have rz13a := rz13.1
                have rz13b := rz13.2
                try simp (decide := true) only [hwu, up_s, gA_s, gA_sn, gN_sF, gA_sS, gN_sS, sA_st, sF_sF, sF_sS, sS_sS, arr_s, arr_n, arr_S, gA_aI, if_true, if_false, true_and, and_true, false_and, and_false] at hz13
                refine r_iconst hx hb dX6_records_90 ?_
                refine r_iadd hx hb dX6_records_91 ?_
                refine r_pI C0 hW (show 10 < 11 ∧ 0 < bs 10 from ⟨by decide, by decide⟩) rfl rfl hiX6 tyX6 tyX6_ok nmX6 (k := 4) (v := iI (z13 + 1)) (by decide) kf_X6_40 rfl rfl rfl (tyX6_ok 4 (by decide)) rfl rfl (by simp) rfl dX6_records_92 (fun H1 locs1 hW => ?_)
                obtain ⟨w14, hw14⟩ : ∃ wq9 : gW, wq9 = up wu 10 (sS (wu 10) 0 4 (iI (z13 + 1))) := ⟨_, rfl⟩
                rw [← hw14] at hW
                exact r_vret C0 hW (by unfold po_X6_records recS; simp only [hw14, hwu, up_up, up_s]; rw [hU, hN, show x1 = 941 from by omega, show z13 = many (w 10) from by omega]) dX6_records_95
              · refine lv_aload_n hx hb dX6_records_58 rfl (lv_at hl 1 rfl) ?_
                refine r_gR C0 hW (show 10 < 11 ∧ 0 < bs 10 from ⟨by decide, by decide⟩) rfl rfl hiX6 (k := 3) (by decide) kf_X6_16 rfl rfl rfl dX6_records_59 ?_
                refine r_sipush hx hb dX6_records_62 (by decide) ?_
                refine lv_aload_n hx hb dX6_records_65 rfl (lv_at hl 1 rfl) ?_
                refine r_gI C0 hW (show 10 < 11 ∧ 0 < bs 10 from ⟨by decide, by decide⟩) rfl rfl hiX6 (k := 4) (by decide) kf_X6_40 rfl rfl rfl dX6_records_66 (fun z15 (hz15 : z15 = gN (wu 10) 0 4) rz15 => ?_)
                have rz15a := rz15.1
                have rz15b := rz15.2
                try simp (decide := true) only [hwu, up_s, gA_s, gA_sn, gN_sF, gA_sS, gN_sS, sA_st, sF_sF, sF_sS, sS_sS, arr_s, arr_n, arr_S, gA_aI, if_true, if_false, true_and, and_true, false_and, and_false] at hz15
                refine r_imul hx hb dX6_records_69 ?_
                refine lv_iload_n hx hb dX6_records_70 rfl (lv_at hl 0 rfl) ?_
                refine r_iadd hx hb dX6_records_71 ?_
                refine lv_aload_n hx hb dX6_records_72 rfl (lv_at hl 1 rfl) ?_
                refine r_gR C0 hW (show 10 < 11 ∧ 0 < bs 10 from ⟨by decide, by decide⟩) rfl rfl hiX6 (k := 1) (by decide) kf_X6_7 rfl rfl rfl dX6_records_73 ?_
                refine lv_iload_n hx hb dX6_records_76 rfl (lv_at hl 0 rfl) ?_
                refine r_ild C0 hW (show 10 < 11 ∧ 1 < bs 10 from ⟨by decide, by decide⟩) rfl (n := 941) (by omega) (by omega) (by omega) dX6_records_77 (fun z16 (hz16 : z16 = gA (wu 10) 1 x1) rz16 => ?_)
                have rz16a := rz16.1
                have rz16b := rz16.2
                try simp (decide := true) only [hwu, up_s, gA_s, gA_sn, gN_sF, gA_sS, gN_sS, sA_st, sF_sF, sF_sS, sS_sS, arr_s, arr_n, arr_S, gA_aI, if_true, if_false, true_and, and_true, false_and, and_false] at hz16
                refine r_ist C0 hW (show 10 < 11 ∧ 3 < bs 10 from ⟨by decide, by decide⟩) (fun A => rfl) (n := 3764) (v := iI z16) (by omega) (by omega) (by decide) dX6_records_78 (fun H1 locs1 hW => ?_)
                obtain ⟨w17, hw17⟩ : ∃ wq9 : gW, wq9 = up wu 10 (sA (wu 10) 3 ((941 * z15) + x1) (iI z16)) := ⟨_, rfl⟩
                rw [← hw17] at hW
                refine r_iinc (lv' := [(1, .int (iI (x1 + 1))), (0, .ref (ad G 10 0))]) hx hb dX6_records_79 hl (k := 0) rfl (by decide) rfl (fun ls hl => ?_)
                refine lv_goto (tgt := 51) hx hb dX6_records_82 (by decide) ?_
                exact ih51 (x1 + 1) _ (by simp only [hw17, hwu, up_up, up_s, sA_st, arr_s, sF_sF, show z15 = many (w 10) from by omega]; rw [show 941 * many (w 10) + (x1 + 1) = 941 * many (w 10) + x1 + 1 from by omega, selG_s _ _ (by omega), show 941 * many (w 10) + x1 - 941 * many (w 10) = x1 from by omega, show iI z16 = (w 10).1 1 x1 from by rw [hz16, hA1, aI_i]]) _ _ ls (by omega) (by omega) (by omega) hW (lv_sub hl [0, 1] rfl)
          exact hL51 942 0 _ (by rw [selG_0 _ _ (by omega), h3, sF_id, up_id]) _ _ ls (by omega) (by omega) (by omega) hW (lv_sub hl [0, 1] rfl)
        · refine lv_aload_n hx hb dX6_records_17 rfl (lv_at hl 1 rfl) ?_
          refine r_gR C0 hW (show 10 < 11 ∧ 0 < bs 10 from ⟨by decide, by decide⟩) rfl rfl hiX6 (k := 3) (by decide) kf_X6_16 rfl rfl rfl dX6_records_18 ?_
          refine lv_iload_n hx hb dX6_records_21 rfl (lv_at hl 0 rfl) ?_
          refine lv_aload_n hx hb dX6_records_22 rfl (lv_at hl 1 rfl) ?_
          refine r_gR C0 hW (show 10 < 11 ∧ 0 < bs 10 from ⟨by decide, by decide⟩) rfl rfl hiX6 (k := 3) (by decide) kf_X6_16 rfl rfl rfl dX6_records_23 ?_
          refine lv_iload_n hx hb dX6_records_26 rfl (lv_at hl 0 rfl) ?_
          refine r_sipush hx hb dX6_records_27 (by decide) ?_
          refine r_iadd hx hb dX6_records_30 ?_
          refine r_ild C0 hW (show 10 < 11 ∧ 3 < bs 10 from ⟨by decide, by decide⟩) rfl (n := 3764) (by omega) (by omega) (by omega) dX6_records_31 (fun z18 (hz18 : z18 = gA (wv 10) 3 (x1 + 941)) rz18 => ?_)
          have rz18a := rz18.1
          have rz18b := rz18.2
          try simp (decide := true) only [hwv, up_s, gA_s, gA_sn, gN_sF, gA_sS, gN_sS, sA_st, sF_sF, sF_sS, sS_sS, arr_s, arr_n, arr_S, gA_aI, if_true, if_false, true_and, and_true, false_and, and_false] at hz18
          refine r_ist C0 hW (show 10 < 11 ∧ 3 < bs 10 from ⟨by decide, by decide⟩) (fun A => rfl) (n := 3764) (v := iI z18) (by omega) (by omega) (by decide) dX6_records_32 (fun H1 locs1 hW => ?_)
          obtain ⟨w19, hw19⟩ : ∃ wq9 : gW, wq9 = up wv 10 (sA (wv 10) 3 x1 (iI z18)) := ⟨_, rfl⟩
          rw [← hw19] at hW
          refine r_iinc (lv' := [(1, .int (iI (x1 + 1))), (0, .ref (ad G 10 0))]) hx hb dX6_records_33 hl (k := 0) rfl (by decide) rfl (fun ls hl => ?_)
          refine lv_goto (tgt := 10) hx hb dX6_records_36 (by decide) ?_
          exact ih10 (x1 + 1) _ (by simp only [hw19, hwv, up_up, up_s, sA_st, arr_s, sF_sF]; rw [selG_s _ _ (by omega), show iI z18 = (w 10).1 3 (x1 + 941) from by rw [hz18, aI_so _ _ (by omega), aI_i]]) _ _ ls (by omega) (by omega) (by omega) hW (lv_sub hl [0, 1] rfl)
    exact hL10 2824 0 _ (by rw [selG_0 _ _ (by omega), sF_id, up_id]) _ _ ls (by omega) (by omega) (by omega) hW (lv_sub hl [0, 1] rfl)

/-- X6_weathers: its end -/
def po_X6_weathers (w : gW) (v : Int) : gW → Prop := fun w1 => w1 = up w 10 (sF (w 10) 1 (wthX ((w 10).1 1) v (aI ((w 10).1 1) 4)))
theorem hdV_X6_weathers : yX6_weathers.cls = RX6 ∧ yX6_weathers.cls ≠ "java/lang/invoke/MethodHandle" ∧ yX6_weathers.cls ≠ "java/lang/invoke/VarHandle" ∧ (parseMethodDescriptor yX6_weathers.desc).map (fun d => d.parameters.length) = some 1 := by decide +kernel
set_option maxHeartbeats 4000000 in
set_option maxRecDepth 100000 in
theorem c_X6_weathers (l : Launch) (G : gG) (w : gW) (v : Int) (rv : inR v) (hL9 : 0 ≤ aI ((w 10).1 1) 4 ∧ aI ((w 10).1 1) 4 ≤ 60) (hwr : wr ((w 10).1 1)) : mV l G yX6_weathers (wU yX6_weathers cX6_weathers 4 none) (rmL 1 23) [.ref (ad G 10 0), .int (iI v)] w (po_X6_weathers w v) := by
  refine mV_of (by decide +kernel) (Nat.le_of_ble_eq_true rfl) (fun p e s m args below meth c ls C0 hW hl => ?_)
  have hl : lv_has ls 4 [(0, .ref (ad G 10 0)), (1, .int (iI v))] := hl
  have hx := C0.hx
  have hb := C0.hb
  refine r_iconst hx hb dX6_weathers_0 ?_
  refine lv_istore_n (lv' := [(2, .int (iI 0)), (0, .ref (ad G 10 0)), (1, .int (iI v))]) hx hb dX6_weathers_1 rfl hl (by decide) rfl (fun ls hl => ?_)
  have hL2 : ∀ (n : Nat) (x2 : Int) (wv : gW) (hwv : wv = up w 10 (sF (w 10) 1 (wthX ((w 10).1 1) v x2))) (H0 : Heap) (locs0 : List Loc) (ls : Array Slot) (hm : aI ((w 10).1 1) 4 - x2 < (n : Int)) (i2_0 : 0 ≤ x2) (i2_1 : x2 ≤ aI ((w 10).1 1) 4) (hW : wo G wv s H0 locs0) (hl : lv_has ls 4 [(2, .int (iI x2)), (0, .ref (ad G 10 0)), (1, .int (iI v))]), W p l e (rmL 1 23) s m args below meth c H0 locs0 0 0 (QV G (po_X6_weathers w v) below args s) (F0 m 2 ls []) := by
    intro n
    induction n with
    | zero =>
      intro x2 wv hwv H0 locs0 ls hm i2_0 i2_1 hW hl
      exact absurd hm (by omega)
    | succ n ih2 =>
      intro x2 wv hwv H0 locs0 ls hm i2_0 i2_1 hW hl
      have hlo := wthX_lo ((w 10).1 1) v x2 (i := 4) (by decide)
      refine lv_iload_n hx hb dX6_weathers_2 rfl (lv_at hl 0 rfl) ?_
      refine lv_aload_n hx hb dX6_weathers_3 rfl (lv_at hl 1 rfl) ?_
      refine r_gR C0 hW (show 10 < 11 ∧ 0 < bs 10 from ⟨by decide, by decide⟩) rfl rfl hiX6 (k := 1) (by decide) kf_X6_7 rfl rfl rfl dX6_weathers_4 ?_
      refine r_iconst hx hb dX6_weathers_7 ?_
      refine r_ild C0 hW (show 10 < 11 ∧ 1 < bs 10 from ⟨by decide, by decide⟩) rfl (n := 941) (by omega) (by omega) (by omega) dX6_weathers_8 (fun z1 (hz1 : z1 = gA (wv 10) 1 4) rz1 => ?_)
      have rz1a := rz1.1
      have rz1b := rz1.2
      try simp (decide := true) only [hwv, up_s, gA_s, gA_sn, gN_sF, gA_sS, gN_sS, sA_st, sF_sF, sF_sS, sS_sS, arr_s, arr_n, arr_S, gA_aI, if_true, if_false, true_and, and_true, false_and, and_false] at hz1
      refine r_icmp_ge (tgt := 71) hx hb ⟨by omega, by omega⟩ rz1 dX6_weathers_9 (by decide) (fun c2 => ?_) (fun c2 => ?_)
      · exact r_vret C0 hW (by unfold po_X6_weathers; rw [show aI ((w 10).1 1) 4 = x2 from by omega]; exact hwv) dX6_weathers_71
      · have hwrx := wr_wthX v x2 hwr x2 i2_0 (by omega)
        refine lv_aload_n hx hb dX6_weathers_12 rfl (lv_at hl 1 rfl) ?_
        refine lv_iload_n hx hb dX6_weathers_13 rfl (lv_at hl 0 rfl) ?_
        refine r_iconst hx hb dX6_weathers_14 ?_
        refine k_Vi (j := 10) (k0 := 0) C0 hW (c_X6_ofRow l G wv x2 5 ⟨by omega, by omega⟩ ⟨by omega, by omega⟩ (by omega)) km_X6_36 ki_X6_ofRow ke_X6_ofRow kn_X6 kc_X6_ofRow rfl hdV_X6_ofRow ⟨by decide, by decide⟩ (show 10 < 11 ∧ 0 < bs 10 from ⟨by decide, by decide⟩) rfl rfl rfl hl.1 rfl (Nat.le_of_ble_eq_true rfl) dX6_weathers_15 (fun z3 w3 H1 locs1 rz3 hp3 hW => ?_)
        obtain ⟨hp3, hq3⟩ := hp3
        subst hq3
        have rz3a := rz3.1
        have rz3b := rz3.2
        try simp (decide := true) only [hwv, up_s, gA_s, gA_sn, gN_sF, gA_sS, gN_sS, sA_st, sF_sF, sF_sS, sS_sS, arr_s, arr_n, arr_S, gA_aI, if_true, if_false, true_and, and_true, false_and, and_false] at hp3
        refine r_if_ne (tgt := 65) hx hb rz3 dX6_weathers_18 (by decide) (fun c4 => ?_) (fun c4 => ?_)
        · refine r_iinc (lv' := [(2, .int (iI (x2 + 1))), (0, .ref (ad G 10 0)), (1, .int (iI v))]) hx hb dX6_weathers_65 hl (k := 0) rfl (by decide) rfl (fun ls hl => ?_)
          refine lv_goto (tgt := 2) hx hb dX6_weathers_68 (by decide) ?_
          exact ih2 (x2 + 1) _ (by rw [wthX_f i2_0 (by omega)]; exact hwv) _ _ ls (by omega) (by omega) (by omega) hW (lv_sub hl [0, 1, 2] rfl)
        · refine lv_aload_n hx hb dX6_weathers_21 rfl (lv_at hl 1 rfl) ?_
          refine lv_iload_n hx hb dX6_weathers_22 rfl (lv_at hl 0 rfl) ?_
          refine r_iconst hx hb dX6_weathers_23 ?_
          refine k_Vi (j := 10) (k0 := 0) C0 hW (c_X6_ofRow l G wv x2 3 ⟨by omega, by omega⟩ ⟨by omega, by omega⟩ (by omega)) km_X6_36 ki_X6_ofRow ke_X6_ofRow kn_X6 kc_X6_ofRow rfl hdV_X6_ofRow ⟨by decide, by decide⟩ (show 10 < 11 ∧ 0 < bs 10 from ⟨by decide, by decide⟩) rfl rfl rfl hl.1 rfl (Nat.le_of_ble_eq_true rfl) dX6_weathers_24 (fun z5 w5 H1 locs1 rz5 hp5 hW => ?_)
          obtain ⟨hp5, hq5⟩ := hp5
          subst hq5
          have rz5a := rz5.1
          have rz5b := rz5.2
          try simp (decide := true) only [hwv, up_s, gA_s, gA_sn, gN_sF, gA_sS, gN_sS, sA_st, sF_sF, sF_sS, sS_sS, arr_s, arr_n, arr_S, gA_aI, if_true, if_false, true_and, and_true, false_and, and_false] at hp5
          refine lv_iload_n hx hb dX6_weathers_27 rfl (lv_at hl 2 rfl) ?_
          refine lv_aload_n hx hb dX6_weathers_28 rfl (lv_at hl 1 rfl) ?_
          refine lv_iload_n hx hb dX6_weathers_29 rfl (lv_at hl 0 rfl) ?_
          refine r_iconst hx hb dX6_weathers_30 ?_
          refine k_Vi (j := 10) (k0 := 0) C0 hW (c_X6_ofRow l G wv x2 4 ⟨by omega, by omega⟩ ⟨by omega, by omega⟩ (by omega)) km_X6_36 ki_X6_ofRow ke_X6_ofRow kn_X6 kc_X6_ofRow rfl hdV_X6_ofRow ⟨by decide, by decide⟩ (show 10 < 11 ∧ 0 < bs 10 from ⟨by decide, by decide⟩) rfl rfl rfl hl.1 rfl (Nat.le_of_ble_eq_true rfl) dX6_weathers_31 (fun z6 w6 H1 locs1 rz6 hp6 hW => ?_)
          obtain ⟨hp6, hq6⟩ := hp6
          subst hq6
          have rz6a := rz6.1
          have rz6b := rz6.2
          try simp (decide := true) only [hwv, up_s, gA_s, gA_sn, gN_sF, gA_sS, gN_sS, sA_st, sF_sF, sF_sS, sS_sS, arr_s, arr_n, arr_S, gA_aI, if_true, if_false, true_and, and_true, false_and, and_false] at hp6
          refine k_Si (host := "") C0 hW (As := [.int (iI v), .int (iI z6)]) (c_X6_drier l G wv v z6 rv rz6 (by omega)) km_X6_43 ks_X6_drier kn_X6 kc_X6_drier rfl hdS_X6_drier ⟨by decide, by decide⟩ rfl hl.1 rfl (Nat.le_of_ble_eq_true rfl) dX6_weathers_34 (fun z7 w7 H1 locs1 rz7 hp7 hW => ?_)
          obtain ⟨hp7, hq7⟩ := hp7
          subst hq7
          have rz7a := rz7.1
          have rz7b := rz7.2
          try simp (decide := true) only [hwv, up_s, gA_s, gA_sn, gN_sF, gA_sS, gN_sS, sA_st, sF_sF, sF_sS, sS_sS, arr_s, arr_n, arr_S, gA_aI, if_true, if_false, true_and, and_true, false_and, and_false] at hp7
          have hdr := drr_le (v := v) (t := z6) (by omega)
          refine r_isub hx hb dX6_weathers_37 ?_
          refine lv_istore_n (lv' := [(3, .int (iI (z5 - z7))), (2, .int (iI x2)), (0, .ref (ad G 10 0)), (1, .int (iI v))]) hx hb dX6_weathers_38 rfl hl (by decide) rfl (fun ls hl => ?_)
          refine lv_aload_n hx hb dX6_weathers_39 rfl (lv_at hl 2 rfl) ?_
          refine lv_iload_n hx hb dX6_weathers_40 rfl (lv_at hl 1 rfl) ?_
          refine r_iconst hx hb dX6_weathers_41 ?_
          refine lv_iload_n hx hb dX6_weathers_42 rfl (lv_at hl 0 rfl) ?_
          refine r_if_ge (tgt := 50) hx hb ⟨by omega, by omega⟩ dX6_weathers_43 (by decide) (fun c8 => ?_) (fun c8 => ?_)
          · refine lv_iload_n hx hb dX6_weathers_50 rfl (lv_at hl 0 rfl) ?_
            refine r_bipush hx hb dX6_weathers_51 (by decide) ?_
            refine r_icmp_le (tgt := 61) hx hb ⟨by omega, by omega⟩ ⟨by omega, by omega⟩ dX6_weathers_53 (by decide) (fun c9 => ?_) (fun c9 => ?_)
            · refine lv_iload_n hx hb dX6_weathers_61 rfl (lv_at hl 0 rfl) ?_
              refine k_Vv (j := 10) (k0 := 0) C0 hW (c_X6_layRow l G wv x2 3 (z5 - z7) ⟨by omega, by omega⟩ ⟨by omega, by omega⟩ ⟨by omega, by omega⟩ (by omega)) km_X6_46 ki_X6_layRow ke_X6_layRow kn_X6 kc_X6_layRow rfl hdV_X6_layRow ⟨by decide, by decide⟩ (show 10 < 11 ∧ 0 < bs 10 from ⟨by decide, by decide⟩) rfl rfl rfl hl.1 rfl (Nat.le_of_ble_eq_true rfl) dX6_weathers_62 (fun w10 H1 locs1 hp10 hW => ?_)
              have hw10 : w10 = _ := hp10
              refine r_iinc (lv' := [(2, .int (iI (x2 + 1))), (3, .int (iI (z5 - z7))), (0, .ref (ad G 10 0)), (1, .int (iI v))]) hx hb dX6_weathers_65 hl (k := 1) rfl (by decide) rfl (fun ls hl => ?_)
              refine lv_goto (tgt := 2) hx hb dX6_weathers_68 (by decide) ?_
              exact ih2 (x2 + 1) _ (by rw [wthX_t i2_0 (by omega), ← hp5, ← hp6, ← hp7, show clp (z5 - z7) = (z5 - z7) from by unfold clp; first | (rw [if_pos (by omega)]) | (rw [if_neg (by omega), if_pos (by omega)]) | (rw [if_neg (by omega), if_neg (by omega)])]; simp only [hw10, hwv, up_up, up_s, arr_s, sF_sF]) _ _ ls (by omega) (by omega) (by omega) hW (lv_sub hl [0, 2, 3] rfl)
            · refine r_bipush hx hb dX6_weathers_56 (by decide) ?_
              refine lv_goto (tgt := 62) hx hb dX6_weathers_58 (by decide) ?_
              refine k_Vv (j := 10) (k0 := 0) C0 hW (c_X6_layRow l G wv x2 3 60 ⟨by omega, by omega⟩ ⟨by omega, by omega⟩ ⟨by omega, by omega⟩ (by omega)) km_X6_46 ki_X6_layRow ke_X6_layRow kn_X6 kc_X6_layRow rfl hdV_X6_layRow ⟨by decide, by decide⟩ (show 10 < 11 ∧ 0 < bs 10 from ⟨by decide, by decide⟩) rfl rfl rfl hl.1 rfl (Nat.le_of_ble_eq_true rfl) dX6_weathers_62 (fun w11 H1 locs1 hp11 hW => ?_)
              have hw11 : w11 = _ := hp11
              refine r_iinc (lv' := [(2, .int (iI (x2 + 1))), (3, .int (iI (z5 - z7))), (0, .ref (ad G 10 0)), (1, .int (iI v))]) hx hb dX6_weathers_65 hl (k := 1) rfl (by decide) rfl (fun ls hl => ?_)
              refine lv_goto (tgt := 2) hx hb dX6_weathers_68 (by decide) ?_
              exact ih2 (x2 + 1) _ (by rw [wthX_t i2_0 (by omega), ← hp5, ← hp6, ← hp7, show clp (z5 - z7) = 60 from by unfold clp; first | (rw [if_pos (by omega)]) | (rw [if_neg (by omega), if_pos (by omega)]) | (rw [if_neg (by omega), if_neg (by omega)])]; simp only [hw11, hwv, up_up, up_s, arr_s, sF_sF]) _ _ ls (by omega) (by omega) (by omega) hW (lv_sub hl [0, 2, 3] rfl)
          · refine r_iconst hx hb dX6_weathers_46 ?_
            refine lv_goto (tgt := 62) hx hb dX6_weathers_47 (by decide) ?_
            refine k_Vv (j := 10) (k0 := 0) C0 hW (c_X6_layRow l G wv x2 3 0 ⟨by omega, by omega⟩ ⟨by omega, by omega⟩ ⟨by omega, by omega⟩ (by omega)) km_X6_46 ki_X6_layRow ke_X6_layRow kn_X6 kc_X6_layRow rfl hdV_X6_layRow ⟨by decide, by decide⟩ (show 10 < 11 ∧ 0 < bs 10 from ⟨by decide, by decide⟩) rfl rfl rfl hl.1 rfl (Nat.le_of_ble_eq_true rfl) dX6_weathers_62 (fun w12 H1 locs1 hp12 hW => ?_)
            have hw12 : w12 = _ := hp12
            refine r_iinc (lv' := [(2, .int (iI (x2 + 1))), (3, .int (iI (z5 - z7))), (0, .ref (ad G 10 0)), (1, .int (iI v))]) hx hb dX6_weathers_65 hl (k := 1) rfl (by decide) rfl (fun ls hl => ?_)
            refine lv_goto (tgt := 2) hx hb dX6_weathers_68 (by decide) ?_
            exact ih2 (x2 + 1) _ (by rw [wthX_t i2_0 (by omega), ← hp5, ← hp6, ← hp7, show clp (z5 - z7) = 0 from by unfold clp; first | (rw [if_pos (by omega)]) | (rw [if_neg (by omega), if_pos (by omega)]) | (rw [if_neg (by omega), if_neg (by omega)])]; simp only [hw12, hwv, up_up, up_s, arr_s, sF_sF]) _ _ ls (by omega) (by omega) (by omega) hW (lv_sub hl [0, 2, 3] rfl)
  exact hL2 61 0 _ (by rw [wthX_0, sF_id, up_id]) _ _ ls (by omega) (by omega) (by omega) hW (lv_sub hl [0, 1, 2] rfl)
