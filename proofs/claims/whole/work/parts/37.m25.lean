/-- X6_reads: its end -/
def po_X6_reads (w : gW) : Int → gW → Prop := fun z w1 => ∃ (n : Nat) (M' : gM), rdR (w 10) n M' ∧ ¬ (¬ gN M' 0 10 = 0 ∧ gN M' 0 9 < gN M' 0 8) ∧ (z = if gN M' 0 10 = 0 then gN M' 0 9 else -5) ∧ w1 = up w 10 M'
theorem hdV_X6_reads : yX6_reads.cls = RX6 ∧ yX6_reads.cls ≠ "java/lang/invoke/MethodHandle" ∧ yX6_reads.cls ≠ "java/lang/invoke/VarHandle" ∧ (parseMethodDescriptor yX6_reads.desc).map (fun d => d.parameters.length) = some 0 := by decide +kernel
set_option maxHeartbeats 4000000 in
set_option maxRecDepth 100000 in
theorem c_X6_reads (l : Launch) (G : gG) (w : gW) (ht9 : 0 ≤ gN (w 10) 0 8 ∧ gN (w 10) 0 8 ≤ 60) : mI l G yX6_reads (wU yX6_reads cX6_reads 1 (some .int)) (rmL 3 64) [.ref (ad G 10 0)] w (po_X6_reads w) := by
  refine mI_of (by decide +kernel) (Nat.le_of_ble_eq_true rfl) (fun p e s m args below meth c ls C0 hW hl => ?_)
  have hl : lv_has ls 1 [(0, .ref (ad G 10 0))] := hl
  have hx := C0.hx
  have hb := C0.hb
  refine lv_aload_n hx hb dX6_reads_0 rfl (lv_at hl 0 rfl) ?_
  refine r_iconst hx hb dX6_reads_1 ?_
  refine r_pI C0 hW (show 10 < 11 ∧ 0 < bs 10 from ⟨by decide, by decide⟩) rfl rfl hiX6 tyX6 tyX6_ok nmX6 (k := 9) (v := iI 0) (by decide) kf_X6_122 rfl rfl rfl (tyX6_ok 9 (by decide)) rfl rfl (by simp) rfl dX6_reads_2 (fun H1 locs1 hW => ?_)
  obtain ⟨w1, hw1⟩ : ∃ wq9 : gW, wq9 = up w 10 (sS (w 10) 0 9 (iI 0)) := ⟨_, rfl⟩
  rw [← hw1] at hW
  refine lv_aload_n hx hb dX6_reads_5 rfl (lv_at hl 0 rfl) ?_
  refine r_iconst hx hb dX6_reads_6 ?_
  refine r_pI C0 hW (show 10 < 11 ∧ 0 < bs 10 from ⟨by decide, by decide⟩) rfl rfl hiX6 tyX6 tyX6_ok nmX6 (k := 12) (v := iI 0) (by decide) kf_X6_110 rfl rfl rfl (tyX6_ok 12 (by decide)) rfl rfl (by simp) rfl dX6_reads_7 (fun H1 locs1 hW => ?_)
  obtain ⟨w2, hw2⟩ : ∃ wq9 : gW, wq9 = up w1 10 (sS (w1 10) 0 12 (iI 0)) := ⟨_, rfl⟩
  rw [← hw2] at hW
  have hw0 : w2 = up w 10 (sS (sS (w 10) 0 9 (iI 0)) 0 12 (iI 0)) := by simp (decide := true) only [hw2, hw1, up_up, up_s]
  refine lv_aload_n hx hb dX6_reads_10 rfl (lv_at hl 0 rfl) ?_
  refine k_Vv (j := 10) (k0 := 0) C0 hW (c_X6_readsGroup l G w2 (by first | omega | (simp (decide := true) only [hw2, hw1, up_s, gA_s, gA_sn, gN_sF, gA_sS, gN_sS, sA_st, sF_sF, sF_sS, sS_sS, arr_s, arr_n, arr_S, gA_aI, if_true, if_false, true_and, and_true, false_and, and_false, iIt0, iIt1, sS_c, Int.add_zero, sgX_9, sgX_10, sgX_12, sgX_F, sgX_0, num9] <;> omega)) (by first | omega | (simp (decide := true) only [hw2, hw1, up_s, gA_s, gA_sn, gN_sF, gA_sS, gN_sS, sA_st, sF_sF, sF_sS, sS_sS, arr_s, arr_n, arr_S, gA_aI, if_true, if_false, true_and, and_true, false_and, and_false, iIt0, iIt1, sS_c, Int.add_zero, sgX_9, sgX_10, sgX_12, sgX_F, sgX_0, num9] <;> omega))) km_X6_135 ki_X6_readsGroup ke_X6_readsGroup kn_X6 kc_X6_readsGroup rfl hdV_X6_readsGroup ⟨by decide, by decide⟩ (show 10 < 11 ∧ 0 < bs 10 from ⟨by decide, by decide⟩) rfl rfl rfl hl.1 rfl (Nat.le_of_ble_eq_true rfl) dX6_reads_11 (fun w3 H1 locs1 hp3 hW => ?_)
  have hpR := hp3
  obtain ⟨M9, hM9, hwM⟩ := hpR
  have e9 : w3 10 = M9 := by rw [hwM]; exact up_s _ _ _
  rw [hw0, up_s] at hM9
  rw [hw0, up_up] at hwM
  have q9 : gN (sS (sS (w 10) 0 9 (iI 0)) 0 12 (iI 0)) 0 9 = 0 := rfl
  have q12 : gN (sS (sS (w 10) 0 9 (iI 0)) 0 12 (iI 0)) 0 12 = 0 := rfl
  have q8 : gN (sS (sS (w 10) 0 9 (iI 0)) 0 12 (iI 0)) 0 8 = gN (w 10) 0 8 := rfl
  have hf := stG_fact hM9 (by omega) (by omega) (by omega)
  rw [← e9] at hf hM9 hwM
  have hL14 : ∀ (n : Nat) (wv : gW) (hwv : True) (H0 : Heap) (locs0 : List Loc) (ls : Array Slot) (hm : 2 * (gN (w 10) 0 8 - gN (wv 10) 0 9) + gN (wv 10) 0 10 < (n : Int)) (i14_0 : ∃ n, rdR (w 10) n (wv 10)) (i14_1 : wv = up w 10 (wv 10)) (i14_2 : (0 ≤ gN (wv 10) 0 9 ∧ gN (wv 10) 0 9 ≤ gN (w 10) 0 8) ∧ gN (wv 10) 0 8 = gN (w 10) 0 8 ∧ (0 ≤ gN (wv 10) 0 12 ∧ gN (wv 10) 0 12 ≤ gN (wv 10) 0 9) ∧ (0 ≤ gN (wv 10) 0 10 ∧ gN (wv 10) 0 10 ≤ 1)) (hW : wo G wv s H0 locs0) (hl : lv_has ls 1 [(0, .ref (ad G 10 0))]), W p l e (rmL 3 64) s m args below meth c H0 locs0 0 0 (QI G (po_X6_reads w) below args s) (F0 m 14 ls []) := by
    intro n
    induction n with
    | zero =>
      intro  wv hwv H0 locs0 ls hm i14_0 i14_1 i14_2 hW hl
      exact absurd hm (by omega)
    | succ n ih14 =>
      intro  wv hwv H0 locs0 ls hm i14_0 i14_1 i14_2 hW hl
      obtain ⟨n9, hn9⟩ := i14_0
      refine lv_aload_n hx hb dX6_reads_14 rfl (lv_at hl 0 rfl) ?_
      refine r_gI C0 hW (show 10 < 11 ∧ 0 < bs 10 from ⟨by decide, by decide⟩) rfl rfl hiX6 (k := 10) (by decide) kf_X6_128 rfl rfl rfl dX6_reads_15 (fun z4 (hz4 : z4 = gN (wv 10) 0 10) rz4 => ?_)
      have rz4a := rz4.1
      have rz4b := rz4.2
      try simp (decide := true) only [hw2, hw1, up_s, gA_s, gA_sn, gN_sF, gA_sS, gN_sS, sA_st, sF_sF, sF_sS, sS_sS, arr_s, arr_n, arr_S, gA_aI, if_true, if_false, true_and, and_true, false_and, and_false, iIt0, iIt1, sS_c, Int.add_zero, sgX_9, sgX_10, sgX_12, sgX_F, sgX_0, num9] at hz4
      refine r_if_eq (tgt := 39) hx hb rz4 dX6_reads_18 (by decide) (fun c5 => ?_) (fun c5 => ?_)
      · refine lv_aload_n hx hb dX6_reads_39 rfl (lv_at hl 0 rfl) ?_
        refine r_gI C0 hW (show 10 < 11 ∧ 0 < bs 10 from ⟨by decide, by decide⟩) rfl rfl hiX6 (k := 10) (by decide) kf_X6_128 rfl rfl rfl dX6_reads_40 (fun z6 (hz6 : z6 = gN (wv 10) 0 10) rz6 => ?_)
        have rz6a := rz6.1
        have rz6b := rz6.2
        try simp (decide := true) only [hw2, hw1, up_s, gA_s, gA_sn, gN_sF, gA_sS, gN_sS, sA_st, sF_sF, sF_sS, sS_sS, arr_s, arr_n, arr_S, gA_aI, if_true, if_false, true_and, and_true, false_and, and_false, iIt0, iIt1, sS_c, Int.add_zero, sgX_9, sgX_10, sgX_12, sgX_F, sgX_0, num9] at hz6
        refine r_if_eq (tgt := 51) hx hb rz6 dX6_reads_43 (by decide) (fun c7 => ?_) (fun c7 => ?_)
        · refine lv_aload_n hx hb dX6_reads_51 rfl (lv_at hl 0 rfl) ?_
          refine r_gI C0 hW (show 10 < 11 ∧ 0 < bs 10 from ⟨by decide, by decide⟩) rfl rfl hiX6 (k := 9) (by decide) kf_X6_122 rfl rfl rfl dX6_reads_52 (fun z8 (hz8 : z8 = gN (wv 10) 0 9) rz8 => ?_)
          have rz8a := rz8.1
          have rz8b := rz8.2
          try simp (decide := true) only [hw2, hw1, up_s, gA_s, gA_sn, gN_sF, gA_sS, gN_sS, sA_st, sF_sF, sF_sS, sS_sS, arr_s, arr_n, arr_S, gA_aI, if_true, if_false, true_and, and_true, false_and, and_false, iIt0, iIt1, sS_c, Int.add_zero, sgX_9, sgX_10, sgX_12, sgX_F, sgX_0, num9] at hz8
          exact r_iret C0 hW rz8 (⟨n9, wv 10, hn9, by omega, by first | (rw [if_pos (by omega)]; omega) | (rw [if_neg (by omega)]), i14_1⟩) dX6_reads_55
        · refine r_bipush hx hb dX6_reads_46 (by decide) ?_
          refine lv_goto (tgt := 55) hx hb dX6_reads_48 (by decide) ?_
          exact r_iret C0 hW ⟨by omega, by omega⟩ (⟨n9, wv 10, hn9, by omega, by first | (rw [if_pos (by omega)]; omega) | (rw [if_neg (by omega)]), i14_1⟩) dX6_reads_55
      · refine lv_aload_n hx hb dX6_reads_21 rfl (lv_at hl 0 rfl) ?_
        refine r_gI C0 hW (show 10 < 11 ∧ 0 < bs 10 from ⟨by decide, by decide⟩) rfl rfl hiX6 (k := 9) (by decide) kf_X6_122 rfl rfl rfl dX6_reads_22 (fun z9 (hz9 : z9 = gN (wv 10) 0 9) rz9 => ?_)
        have rz9a := rz9.1
        have rz9b := rz9.2
        try simp (decide := true) only [hw2, hw1, up_s, gA_s, gA_sn, gN_sF, gA_sS, gN_sS, sA_st, sF_sF, sF_sS, sS_sS, arr_s, arr_n, arr_S, gA_aI, if_true, if_false, true_and, and_true, false_and, and_false, iIt0, iIt1, sS_c, Int.add_zero, sgX_9, sgX_10, sgX_12, sgX_F, sgX_0, num9] at hz9
        refine lv_aload_n hx hb dX6_reads_25 rfl (lv_at hl 0 rfl) ?_
        refine r_gI C0 hW (show 10 < 11 ∧ 0 < bs 10 from ⟨by decide, by decide⟩) rfl rfl hiX6 (k := 8) (by decide) kf_X6_119 rfl rfl rfl dX6_reads_26 (fun z10 (hz10 : z10 = gN (wv 10) 0 8) rz10 => ?_)
        have rz10a := rz10.1
        have rz10b := rz10.2
        try simp (decide := true) only [hw2, hw1, up_s, gA_s, gA_sn, gN_sF, gA_sS, gN_sS, sA_st, sF_sF, sF_sS, sS_sS, arr_s, arr_n, arr_S, gA_aI, if_true, if_false, true_and, and_true, false_and, and_false, iIt0, iIt1, sS_c, Int.add_zero, sgX_9, sgX_10, sgX_12, sgX_F, sgX_0, num9] at hz10
        refine r_icmp_ge (tgt := 39) hx hb rz9 rz10 dX6_reads_29 (by decide) (fun c11 => ?_) (fun c11 => ?_)
        · refine lv_aload_n hx hb dX6_reads_39 rfl (lv_at hl 0 rfl) ?_
          refine r_gI C0 hW (show 10 < 11 ∧ 0 < bs 10 from ⟨by decide, by decide⟩) rfl rfl hiX6 (k := 10) (by decide) kf_X6_128 rfl rfl rfl dX6_reads_40 (fun z12 (hz12 : z12 = gN (wv 10) 0 10) rz12 => ?_)
          have rz12a := rz12.1
          have rz12b := rz12.2
          try simp (decide := true) only [hw2, hw1, up_s, gA_s, gA_sn, gN_sF, gA_sS, gN_sS, sA_st, sF_sF, sF_sS, sS_sS, arr_s, arr_n, arr_S, gA_aI, if_true, if_false, true_and, and_true, false_and, and_false, iIt0, iIt1, sS_c, Int.add_zero, sgX_9, sgX_10, sgX_12, sgX_F, sgX_0, num9] at hz12
          refine r_if_eq (tgt := 51) hx hb rz12 dX6_reads_43 (by decide) (fun c13 => ?_) (fun c13 => ?_)
          · refine lv_aload_n hx hb dX6_reads_51 rfl (lv_at hl 0 rfl) ?_
            refine r_gI C0 hW (show 10 < 11 ∧ 0 < bs 10 from ⟨by decide, by decide⟩) rfl rfl hiX6 (k := 9) (by decide) kf_X6_122 rfl rfl rfl dX6_reads_52 (fun z14 (hz14 : z14 = gN (wv 10) 0 9) rz14 => ?_)
            have rz14a := rz14.1
            have rz14b := rz14.2
            try simp (decide := true) only [hw2, hw1, up_s, gA_s, gA_sn, gN_sF, gA_sS, gN_sS, sA_st, sF_sF, sF_sS, sS_sS, arr_s, arr_n, arr_S, gA_aI, if_true, if_false, true_and, and_true, false_and, and_false, iIt0, iIt1, sS_c, Int.add_zero, sgX_9, sgX_10, sgX_12, sgX_F, sgX_0, num9] at hz14
            exact r_iret C0 hW rz14 (⟨n9, wv 10, hn9, by omega, by first | (rw [if_pos (by omega)]; omega) | (rw [if_neg (by omega)]), i14_1⟩) dX6_reads_55
          · refine r_bipush hx hb dX6_reads_46 (by decide) ?_
            refine lv_goto (tgt := 55) hx hb dX6_reads_48 (by decide) ?_
            exact r_iret C0 hW ⟨by omega, by omega⟩ (⟨n9, wv 10, hn9, by omega, by first | (rw [if_pos (by omega)]; omega) | (rw [if_neg (by omega)]), i14_1⟩) dX6_reads_55
        · refine lv_aload_n hx hb dX6_reads_32 rfl (lv_at hl 0 rfl) ?_
          refine k_Vv (j := 10) (k0 := 0) C0 hW (c_X6_readsGroup l G wv (by first | omega | (simp (decide := true) only [hw2, hw1, up_s, gA_s, gA_sn, gN_sF, gA_sS, gN_sS, sA_st, sF_sF, sF_sS, sS_sS, arr_s, arr_n, arr_S, gA_aI, if_true, if_false, true_and, and_true, false_and, and_false, iIt0, iIt1, sS_c, Int.add_zero, sgX_9, sgX_10, sgX_12, sgX_F, sgX_0, num9] <;> omega)) (by first | omega | (simp (decide := true) only [hw2, hw1, up_s, gA_s, gA_sn, gN_sF, gA_sS, gN_sS, sA_st, sF_sF, sF_sS, sS_sS, arr_s, arr_n, arr_S, gA_aI, if_true, if_false, true_and, and_true, false_and, and_false, iIt0, iIt1, sS_c, Int.add_zero, sgX_9, sgX_10, sgX_12, sgX_F, sgX_0, num9] <;> omega))) km_X6_135 ki_X6_readsGroup ke_X6_readsGroup kn_X6 kc_X6_readsGroup rfl hdV_X6_readsGroup ⟨by decide, by decide⟩ (show 10 < 11 ∧ 0 < bs 10 from ⟨by decide, by decide⟩) rfl rfl rfl hl.1 rfl (Nat.le_of_ble_eq_true rfl) dX6_reads_33 (fun w15 H1 locs1 hp15 hW => ?_)
          have hpR := hp15
          obtain ⟨M9, hM9, hwM⟩ := hpR
          have e9 : w15 10 = M9 := by rw [hwM]; exact up_s _ _ _
          have hf := stG_fact hM9 (by omega) (by omega) (by omega)
          rw [← e9] at hf hM9 hwM
          refine lv_goto (tgt := 14) hx hb dX6_reads_36 (by decide) ?_
          exact ih14  _ (trivial) _ _ ls (by omega) (⟨n9 + 1, wv 10, hn9, ⟨by omega, by omega⟩, hM9⟩) (hwM.trans (by rw [i14_1, up_up])) (by omega) hW (lv_sub hl [0] rfl)
  exact hL14 130  _ (trivial) _ _ ls (by omega) (⟨0, hM9⟩) (hwM) (by omega) hW (lv_sub hl [0] rfl)
