/-- X6_passAll: its end -/
def po_X6_passAll (w : gW) : Int → gW → Prop := fun z w1 => ∃ (n : Nat) (M' : gM), rdR (sS (w 10) 0 0 (iI 0)) n M' ∧ ¬ (¬ gN M' 0 10 = 0 ∧ gN M' 0 9 < gN M' 0 8) ∧ ((gN M' 0 10 = 0 ∧ z = -100 - gN M' 0 9 ∧ w1 = up w 10 M') ∨ (¬ gN M' 0 10 = 0 ∧ iI z = iI (sumX (vG (M'.1 6)) (gN M' 0 12)) ∧ w1 = up w 10 (sF (recS M') 1 (grX ((w 10).1 1) (M'.1 6) (gN M' 0 12)))))
theorem hdV_X6_passAll : yX6_passAll.cls = RX6 ∧ yX6_passAll.cls ≠ "java/lang/invoke/MethodHandle" ∧ yX6_passAll.cls ≠ "java/lang/invoke/VarHandle" ∧ (parseMethodDescriptor yX6_passAll.desc).map (fun d => d.parameters.length) = some 0 := by decide +kernel
set_option maxHeartbeats 4000000 in
set_option maxRecDepth 100000 in
theorem c_X6_passAll (l : Launch) (G : gG) (w : gW) (hM : mO w) : mI l G yX6_passAll (wU yX6_passAll cX6_passAll 5 (some .int)) (rmL 4 92) [.ref (ad G 10 0)] w (po_X6_passAll w) := by
  refine mI_of (by decide +kernel) (Nat.le_of_ble_eq_true rfl) (fun p e s m args below meth c ls C0 hW hl => ?_)
  have hl : lv_has ls 5 [(0, .ref (ad G 10 0))] := hl
  have hx := C0.hx
  have hb := C0.hb
  obtain ⟨hwA, hop, hds, hsm, hln, hdy, hsk⟩ := id hM
  obtain ⟨hv1, hv2, hv3, hv4⟩ := id hwA
  refine lv_aload_n hx hb dX6_passAll_0 rfl (lv_at hl 0 rfl) ?_
  refine r_iconst hx hb dX6_passAll_1 ?_
  refine r_pI C0 hW (show 10 < 11 ∧ 0 < bs 10 from ⟨by decide, by decide⟩) rfl rfl hiX6 tyX6 tyX6_ok nmX6 (k := 0) (v := iI 0) (by decide) kf_X6_28 rfl rfl rfl (tyX6_ok 0 (by decide)) rfl rfl (by simp) rfl dX6_passAll_2 (fun H1 locs1 hW => ?_)
  obtain ⟨w1, hw1⟩ : ∃ wq9 : gW, wq9 = up w 10 (sS (w 10) 0 0 (iI 0)) := ⟨_, rfl⟩
  rw [← hw1] at hW
  refine lv_aload_n hx hb dX6_passAll_5 rfl (lv_at hl 0 rfl) ?_
  refine k_Vi (j := 10) (k0 := 0) C0 hW (c_X6_reads l G w1 (by first | omega | (simp (decide := true) only [hw1, up_s, gA_s, gA_sn, gN_sF, gA_sS, gN_sS, sA_st, sF_sF, sF_sS, sS_sS, arr_s, arr_n, arr_S, gA_aI, if_true, if_false, true_and, and_true, false_and, and_false, recS_1, recS_4, recS_5, recS_6, gN_rec, gA_sx, iIt0, iIt1, gA_rec6] <;> omega))) km_X6_106 ki_X6_reads ke_X6_reads kn_X6 kc_X6_reads rfl hdV_X6_reads ⟨by decide, by decide⟩ (show 10 < 11 ∧ 0 < bs 10 from ⟨by decide, by decide⟩) rfl rfl rfl hl.1 rfl (Nat.le_of_ble_eq_true rfl) dX6_passAll_6 (fun z2 w2 H1 locs1 rz2 hp2 hW => ?_)
  have rz2a := rz2.1
  have rz2b := rz2.2
  obtain ⟨n9, M9, hR9, hC9, hz9, hwM⟩ := hp2
  rw [hw1, up_s] at hR9
  rw [hw1, up_up] at hwM
  obtain ⟨f1, f2⟩ := rdR_fact (M := (sS (w 10) 0 0 (iI 0))) (by show 0 ≤ gN (w 10) 0 8 ∧ gN (w 10) 0 8 ≤ 60; exact hln) n9 M9 hR9
  have g1 : ((0 ≤ gN M9 0 9 ∧ gN M9 0 9 ≤ gN (w 10) 0 8) ∧ gN M9 0 8 = gN (w 10) 0 8 ∧ (0 ≤ gN M9 0 12 ∧ gN M9 0 12 ≤ gN M9 0 9) ∧ (0 ≤ gN M9 0 10 ∧ gN M9 0 10 ≤ 1)) := f1
  have gA1 : M9.1 1 = (w 10).1 1 := f2.1
  have f4 : gN M9 0 4 = gN (w 10) 0 4 := f2.2.2.2.2.1
  have hzz : -5 ≤ z2 ∧ z2 ≤ 60 := by by_cases q : gN M9 0 10 = 0; (rw [if_pos q] at hz9; omega); (rw [if_neg q] at hz9; omega)
  refine lv_istore_n (lv' := [(1, .int (iI z2)), (0, .ref (ad G 10 0))]) hx hb dX6_passAll_9 rfl hl (by decide) rfl (fun ls hl => ?_)
  refine lv_iload_n hx hb dX6_passAll_10 rfl (lv_at hl 0 rfl) ?_
  refine r_bipush hx hb dX6_passAll_11 (by decide) ?_
  refine r_icmp_eq (tgt := 21) hx hb rz2 ⟨by omega, by omega⟩ dX6_passAll_13 (by decide) (fun c3 => ?_) (fun c3 => ?_)
  · have hw10 : ¬ gN M9 0 10 = 0 := fun q => by rw [if_pos q] at hz9; omega
    refine lv_aload_n hx hb dX6_passAll_21 rfl (lv_at hl 1 rfl) ?_
    refine k_Vv (j := 10) (k0 := 0) C0 hW (c_X6_records l G w2 (by first | omega | (simp (decide := true) only [hwM, hw1, up_s, gA_s, gA_sn, gN_sF, gA_sS, gN_sS, sA_st, sF_sF, sF_sS, sS_sS, arr_s, arr_n, arr_S, gA_aI, if_true, if_false, true_and, and_true, false_and, and_false, recS_1, recS_4, recS_5, recS_6, gN_rec, gA_sx, iIt0, iIt1, gA_rec6] <;> omega))) km_X6_80 ki_X6_records ke_X6_records kn_X6 kc_X6_records rfl hdV_X6_records ⟨by decide, by decide⟩ (show 10 < 11 ∧ 0 < bs 10 from ⟨by decide, by decide⟩) rfl rfl rfl hl.1 rfl (Nat.le_of_ble_eq_true rfl) dX6_passAll_22 (fun w4 H1 locs1 hp4 hW => ?_)
    have hw4 : w4 = _ := hp4
    refine r_iconst hx hb dX6_passAll_25 ?_
    refine lv_istore_n (lv' := [(2, .int (iI 0)), (1, .int (iI z2)), (0, .ref (ad G 10 0))]) hx hb dX6_passAll_26 rfl hl (by decide) rfl (fun ls hl => ?_)
    refine r_iconst hx hb dX6_passAll_27 ?_
    refine lv_istore_n (lv' := [(3, .int (iI 0)), (2, .int (iI 0)), (1, .int (iI z2)), (0, .ref (ad G 10 0))]) hx hb dX6_passAll_28 rfl hl (by decide) rfl (fun ls hl => ?_)
    have hL29 : ∀ (n : Nat) (x2 : Int) (x3 : Int) (wv : gW) (hwv : wv = up w 10 (sF (recS M9) 1 (grX ((w 10).1 1) (M9.1 6) x3))) (H0 : Heap) (locs0 : List Loc) (ls : Array Slot) (hm : gN M9 0 12 - x3 < (n : Int)) (i29_0 : 0 ≤ x3) (i29_1 : x3 ≤ gN M9 0 12) (i29_2 : iI x2 = iI (sumX (vG (M9.1 6)) x3)) (hW : wo G wv s H0 locs0) (hl : lv_has ls 5 [(3, .int (iI x3)), (2, .int (iI x2)), (1, .int (iI z2)), (0, .ref (ad G 10 0))]), W p l e (rmL 4 92) s m args below meth c H0 locs0 0 0 (QI G (po_X6_passAll w) below args s) (F0 m 29 ls []) := by
      intro n
      induction n with
      | zero =>
        intro x2 x3 wv hwv H0 locs0 ls hm i29_0 i29_1 i29_2 hW hl
        exact absurd hm (by omega)
      | succ n ih29 =>
        intro x2 x3 wv hwv H0 locs0 ls hm i29_0 i29_1 i29_2 hW hl
        have hvg : vG (M9.1 6) x3 = max 0 (aI (M9.1 6) (2 * x3 + 1)) := rfl
        refine lv_iload_n hx hb dX6_passAll_29 rfl (lv_at hl 0 rfl) ?_
        refine lv_aload_n hx hb dX6_passAll_30 rfl (lv_at hl 3 rfl) ?_
        refine r_gI C0 hW (show 10 < 11 ∧ 0 < bs 10 from ⟨by decide, by decide⟩) rfl rfl hiX6 (k := 12) (by decide) kf_X6_110 rfl rfl rfl dX6_passAll_31 (fun z5 (hz5 : z5 = gN (wv 10) 0 12) rz5 => ?_)
        have rz5a := rz5.1
        have rz5b := rz5.2
        try simp (decide := true) only [hwv, hw4, hwM, hw1, up_s, gA_s, gA_sn, gN_sF, gA_sS, gN_sS, sA_st, sF_sF, sF_sS, sS_sS, arr_s, arr_n, arr_S, gA_aI, if_true, if_false, true_and, and_true, false_and, and_false, recS_1, recS_4, recS_5, recS_6, gN_rec, gA_sx, iIt0, iIt1, gA_rec6] at hz5
        refine r_icmp_ge (tgt := 83) hx hb ⟨by omega, by omega⟩ rz5 dX6_passAll_34 (by decide) (fun c6 => ?_) (fun c6 => ?_)
        · have ex3 : x3 = gN M9 0 12 := by omega
          refine lv_iload_n hx hb dX6_passAll_83 rfl (lv_at hl 1 rfl) ?_
          rw [← iI_o (iI x2)]
          exact r_iret C0 hW (inR_o _) (⟨n9, M9, hR9, hC9, Or.inr ⟨hw10, by rw [iI_o, ← ex3]; exact i29_2, by rw [← ex3]; exact hwv⟩⟩) dX6_passAll_84
        · refine r_iconst hx hb dX6_passAll_37 ?_
          refine lv_istore (lv' := [(4, .int (iI 0)), (3, .int (iI x3)), (2, .int (iI x2)), (1, .int (iI z2)), (0, .ref (ad G 10 0))]) hx hb dX6_passAll_38 hl (by decide) rfl (fun ls hl => ?_)
          have hL40 : ∀ (n : Nat) (y2 : Int) (y4 : Int) (wu : gW) (hwu : wu = up w 10 (sF (recS M9) 1 (dAX (grX ((w 10).1 1) (M9.1 6) x3) (aI (M9.1 6) (2 * x3)) y4))) (H0 : Heap) (locs0 : List Loc) (ls : Array Slot) (hm : vG (M9.1 6) x3 - y4 < (n : Int)) (i40_0 : 0 ≤ y4) (i40_1 : y4 ≤ vG (M9.1 6) x3) (i40_2 : iI y2 = iI (sumX (vG (M9.1 6)) x3 + y4)) (hW : wo G wu s H0 locs0) (hl : lv_has ls 5 [(4, .int (iI y4)), (3, .int (iI x3)), (2, .int (iI y2)), (1, .int (iI z2)), (0, .ref (ad G 10 0))]), W p l e (rmL 4 92) s m args below meth c H0 locs0 0 0 (QI G (po_X6_passAll w) below args s) (F0 m 40 ls []) := by
            intro n
            induction n with
            | zero =>
              intro y2 y4 wu hwu H0 locs0 ls hm i40_0 i40_1 i40_2 hW hl
              exact absurd hm (by omega)
            | succ n ih40 =>
              intro y2 y4 wu hwu H0 locs0 ls hm i40_0 i40_1 i40_2 hW hl
              refine lv_iload hx hb dX6_passAll_40 (lv_at hl 0 rfl) ?_
              refine lv_aload_n hx hb dX6_passAll_42 rfl (lv_at hl 4 rfl) ?_
              refine r_gR C0 hW (show 10 < 11 ∧ 0 < bs 10 from ⟨by decide, by decide⟩) rfl rfl hiX6 (k := 11) (by decide) kf_X6_25 rfl rfl rfl dX6_passAll_43 ?_
              refine r_iconst hx hb dX6_passAll_46 ?_
              refine lv_iload_n hx hb dX6_passAll_47 rfl (lv_at hl 1 rfl) ?_
              refine r_imul hx hb dX6_passAll_48 ?_
              refine r_iconst hx hb dX6_passAll_49 ?_
              refine r_iadd hx hb dX6_passAll_50 ?_
              refine r_ild C0 hW (show 10 < 11 ∧ 6 < bs 10 from ⟨by decide, by decide⟩) rfl (n := 120) (by omega) (by omega) (by omega) dX6_passAll_51 (fun z7 (hz7 : z7 = gA (wu 10) 6 ((2 * x3) + 1)) rz7 => ?_)
              have rz7a := rz7.1
              have rz7b := rz7.2
              try simp (decide := true) only [hwu, up_s, gA_s, gA_sn, gN_sF, gA_sS, gN_sS, sA_st, sF_sF, sF_sS, sS_sS, arr_s, arr_n, arr_S, gA_aI, if_true, if_false, true_and, and_true, false_and, and_false, recS_1, recS_4, recS_5, recS_6, gN_rec, gA_sx, iIt0, iIt1, gA_rec6] at hz7
              refine r_icmp_ge (tgt := 77) hx hb ⟨by omega, by omega⟩ rz7 dX6_passAll_52 (by decide) (fun c8 => ?_) (fun c8 => ?_)
              · refine r_iinc (lv' := [(3, .int (iI (x3 + 1))), (4, .int (iI y4)), (2, .int (iI y2)), (1, .int (iI z2)), (0, .ref (ad G 10 0))]) hx hb dX6_passAll_77 hl (k := 1) rfl (by decide) rfl (fun ls hl => ?_)
                refine lv_goto (tgt := 29) hx hb dX6_passAll_80 (by decide) ?_
                exact ih29 y2 (x3 + 1) _ (by rw [grX_s _ _ (by omega), show vG (M9.1 6) x3 = y4 from by omega]; exact hwu) _ _ ls (by omega) (by omega) (by omega) (by rw [sumX_s _ (by omega), show vG (M9.1 6) x3 = y4 from by omega]; exact i40_2) hW (lv_sub hl [0, 2, 3, 4] rfl)
              · refine lv_aload_n hx hb dX6_passAll_55 rfl (lv_at hl 4 rfl) ?_
                refine lv_aload_n hx hb dX6_passAll_56 rfl (lv_at hl 4 rfl) ?_
                refine r_gR C0 hW (show 10 < 11 ∧ 0 < bs 10 from ⟨by decide, by decide⟩) rfl rfl hiX6 (k := 11) (by decide) kf_X6_25 rfl rfl rfl dX6_passAll_57 ?_
                refine r_iconst hx hb dX6_passAll_60 ?_
                refine lv_iload_n hx hb dX6_passAll_61 rfl (lv_at hl 1 rfl) ?_
                refine r_imul hx hb dX6_passAll_62 ?_
                refine r_ild C0 hW (show 10 < 11 ∧ 6 < bs 10 from ⟨by decide, by decide⟩) rfl (n := 120) (by omega) (by omega) (by omega) dX6_passAll_63 (fun z9 (hz9 : z9 = gA (wu 10) 6 (2 * x3)) rz9 => ?_)
                have rz9a := rz9.1
                have rz9b := rz9.2
                try simp (decide := true) only [hwu, up_s, gA_s, gA_sn, gN_sF, gA_sS, gN_sS, sA_st, sF_sF, sF_sS, sS_sS, arr_s, arr_n, arr_S, gA_aI, if_true, if_false, true_and, and_true, false_and, and_false, recS_1, recS_4, recS_5, recS_6, gN_rec, gA_sx, iIt0, iIt1, gA_rec6] at hz9
                refine k_Vi (j := 10) (k0 := 0) C0 hW (c_X6_passes l G wu z9 rz9 (by rw [hwu, up_s]; simp (decide := true) only [up_s, gA_s, gA_sn, gN_sF, gA_sS, gN_sS, sA_st, sF_sF, sF_sS, sS_sS, arr_s, arr_n, arr_S, gA_aI, if_true, if_false, true_and, and_true, false_and, and_false, recS_1, recS_4, recS_5, recS_6, gN_rec, gA_sx, iIt0, iIt1, gA_rec6]; exact wA_dX _ _ (wA_grX _ _ hwA))) km_X6_103 ki_X6_passes ke_X6_passes kn_X6 kc_X6_passes rfl hdV_X6_passes ⟨by decide, by decide⟩ (show 10 < 11 ∧ 0 < bs 10 from ⟨by decide, by decide⟩) rfl rfl rfl hl.1 rfl (Nat.le_of_ble_eq_true rfl) dX6_passAll_64 (fun z10 w10 H1 locs1 rz10 hp10 hW => ?_)
                obtain ⟨hp10, hw10⟩ := hp10
                have rz10a := rz10.1
                have rz10b := rz10.2
                refine lv_pop hx hb dX6_passAll_67 rfl ?_
                refine r_iinc (lv' := [(2, .int (iI (y2 + 1))), (4, .int (iI y4)), (3, .int (iI x3)), (1, .int (iI z2)), (0, .ref (ad G 10 0))]) hx hb dX6_passAll_68 hl (k := 2) rfl (by decide) rfl (fun ls hl => ?_)
                refine r_iinc (lv' := [(4, .int (iI (y4 + 1))), (2, .int (iI (y2 + 1))), (3, .int (iI x3)), (1, .int (iI z2)), (0, .ref (ad G 10 0))]) hx hb dX6_passAll_71 hl (k := 1) rfl (by decide) rfl (fun ls hl => ?_)
                refine lv_goto (tgt := 40) hx hb dX6_passAll_74 (by decide) ?_
                exact ih40 (y2 + 1) (y4 + 1) _ (by rw [dAX_s _ _ (by omega)]; simp (decide := true) only [hw10, hwu, up_up, up_s, gA_s, gA_sn, gN_sF, gA_sS, gN_sS, sA_st, sF_sF, sF_sS, sS_sS, arr_s, arr_n, arr_S, gA_aI, if_true, if_false, true_and, and_true, false_and, and_false, recS_1, recS_4, recS_5, recS_6, gN_rec, gA_sx, iIt0, iIt1, gA_rec6, hz5, hz7, hz9]) _ _ ls (by omega) (by omega) (by omega) (by rw [← iI_add, i40_2, iI_add]; congr 1; omega) hW (lv_sub hl [0, 2, 1, 3, 4] rfl)
          exact hL40 ((vG (M9.1 6) x3).toNat + 1) x2 0 _ (by rw [dAX_0]; exact hwv) _ _ ls (by omega) (by omega) (by omega) (by rw [Int.add_zero]; exact i29_2) hW (lv_sub hl [0, 1, 2, 3, 4] rfl)
    exact hL29 61 0 0 _ (by rw [grX_0, ← gA1, show sF (recS M9) 1 (M9.1 1) = recS M9 from sF_id _ _]; simp only [hw4, hwM, hw1, up_up, up_s]) _ _ ls (by omega) (by omega) (by omega) (by rw [sumX_0]) hW (lv_sub hl [0, 1, 2, 3] rfl)
  · refine r_bipush hx hb dX6_passAll_16 (by decide) ?_
    refine lv_iload_n hx hb dX6_passAll_18 rfl (lv_at hl 0 rfl) ?_
    refine r_isub hx hb dX6_passAll_19 ?_
    exact r_iret C0 hW ⟨by omega, by omega⟩ (⟨n9, M9, hR9, hC9, Or.inl ⟨by by_cases q : gN M9 0 10 = 0; exact q; (rw [if_neg q] at hz9; omega), by by_cases q : gN M9 0 10 = 0; (rw [if_pos q] at hz9; omega); (rw [if_neg q] at hz9; omega), hwM⟩⟩) dX6_passAll_20
