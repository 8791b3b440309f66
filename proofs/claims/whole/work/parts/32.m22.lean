/-- X6_leaves: its end -/
def po_X6_leaves (w : gW) (pa : Int) : gW → Prop := fun w1 => w1 = up w 10 (sF (w 10) 1 (lvA ((w 10).1 1) pa))
theorem hdV_X6_leaves : yX6_leaves.cls = RX6 ∧ yX6_leaves.cls ≠ "java/lang/invoke/MethodHandle" ∧ yX6_leaves.cls ≠ "java/lang/invoke/VarHandle" ∧ (parseMethodDescriptor yX6_leaves.desc).map (fun d => d.parameters.length) = some 1 := by decide +kernel
set_option maxHeartbeats 4000000 in
set_option maxRecDepth 100000 in
theorem c_X6_leaves (l : Launch) (G : gG) (w : gW) (pa : Int) (rpa : inR pa) (hL9 : 0 ≤ pa ∧ pa < aI ((w 10).1 1) 4 ∧ aI ((w 10).1 1) 4 ≤ 60) : mV l G yX6_leaves (wU yX6_leaves cX6_leaves 3 none) (rmL 1 23) [.ref (ad G 10 0), .int (iI pa)] w (po_X6_leaves w pa) := by
  refine mV_of (by decide +kernel) (Nat.le_of_ble_eq_true rfl) (fun p e s m args below meth c ls C0 hW hl => ?_)
  have hl : lv_has ls 3 [(0, .ref (ad G 10 0)), (1, .int (iI pa))] := hl
  have hx := C0.hx
  have hb := C0.hb
  refine lv_aload_n hx hb dX6_leaves_0 rfl (lv_at hl 0 rfl) ?_
  refine r_gR C0 hW (show 10 < 11 ∧ 0 < bs 10 from ⟨by decide, by decide⟩) rfl rfl hiX6 (k := 1) (by decide) kf_X6_7 rfl rfl rfl dX6_leaves_1 ?_
  refine r_iconst hx hb dX6_leaves_4 ?_
  refine lv_dup2_11 hx hb dX6_leaves_5 rfl rfl ?_
  refine r_ild C0 hW (show 10 < 11 ∧ 1 < bs 10 from ⟨by decide, by decide⟩) rfl (n := 941) (by omega) (by omega) (by omega) dX6_leaves_6 (fun z1 (hz1 : z1 = gA (w 10) 1 4) rz1 => ?_)
  have rz1a := rz1.1
  have rz1b := rz1.2
  try simp (decide := true) only [id, up_s, gA_s, gA_sn, gN_sF, gA_sS, gN_sS, sA_st, sF_sF, sF_sS, sS_sS, arr_s, arr_n, arr_S, gA_aI, if_true, if_false, true_and, and_true, false_and, and_false] at hz1
  refine r_iconst hx hb dX6_leaves_7 ?_
  refine r_isub hx hb dX6_leaves_8 ?_
  refine r_ist C0 hW (show 10 < 11 ∧ 1 < bs 10 from ⟨by decide, by decide⟩) (fun A => rfl) (n := 941) (v := iI (z1 - 1)) (by omega) (by omega) (by decide) dX6_leaves_9 (fun H1 locs1 hW => ?_)
  obtain ⟨w2, hw2⟩ : ∃ wq9 : gW, wq9 = up w 10 (sA (w 10) 1 4 (iI (z1 - 1))) := ⟨_, rfl⟩
  rw [← hw2] at hW
  refine r_bipush hx hb dX6_leaves_10 (by decide) ?_
  refine lv_iload_n hx hb dX6_leaves_12 rfl (lv_at hl 1 rfl) ?_
  refine r_imul hx hb dX6_leaves_13 ?_
  refine lv_istore_n (lv' := [(2, .int (iI (6 * pa))), (0, .ref (ad G 10 0)), (1, .int (iI pa))]) hx hb dX6_leaves_14 rfl hl (by decide) rfl (fun ls hl => ?_)
  have hL15 : ∀ (n : Nat) (x2 : Int) (wv : gW) (hwv : wv = up w 10 (sF (w 10) 1 (selG (st ((w 10).1 1) 4 (iI (aI ((w 10).1 1) 4 - 1))) (fun i => (w 10).1 1 (i + 6)) (101 + 6 * pa)  (101 + x2)))) (H0 : Heap) (locs0 : List Loc) (ls : Array Slot) (hm : 6 * (aI ((w 10).1 1) 4 - 1) - x2 < (n : Int)) (i15_0 : 6 * pa ≤ x2) (i15_1 : x2 ≤ 6 * (aI ((w 10).1 1) 4 - 1)) (hW : wo G wv s H0 locs0) (hl : lv_has ls 3 [(2, .int (iI x2)), (0, .ref (ad G 10 0)), (1, .int (iI pa))]), W p l e (rmL 1 23) s m args below meth c H0 locs0 0 0 (QV G (po_X6_leaves w pa) below args s) (F0 m 15 ls []) := by
    intro n
    induction n with
    | zero =>
      intro x2 wv hwv H0 locs0 ls hm i15_0 i15_1 hW hl
      exact absurd hm (by omega)
    | succ n ih15 =>
      intro x2 wv hwv H0 locs0 ls hm i15_0 i15_1 hW hl
      have hlo : aI (selG (st ((w 10).1 1) 4 (iI (aI ((w 10).1 1) 4 - 1))) (fun i => (w 10).1 1 (i + 6)) (101 + 6 * pa)  (101 + x2)) 4 = aI ((w 10).1 1) 4 - 1 := by rw [aI_so _ _ (by omega), aI_e, iI_t ⟨by omega, by omega⟩]
      refine lv_iload_n hx hb dX6_leaves_15 rfl (lv_at hl 0 rfl) ?_
      refine r_bipush hx hb dX6_leaves_16 (by decide) ?_
      refine lv_aload_n hx hb dX6_leaves_18 rfl (lv_at hl 1 rfl) ?_
      refine r_gR C0 hW (show 10 < 11 ∧ 0 < bs 10 from ⟨by decide, by decide⟩) rfl rfl hiX6 (k := 1) (by decide) kf_X6_7 rfl rfl rfl dX6_leaves_19 ?_
      refine r_iconst hx hb dX6_leaves_22 ?_
      refine r_ild C0 hW (show 10 < 11 ∧ 1 < bs 10 from ⟨by decide, by decide⟩) rfl (n := 941) (by omega) (by omega) (by omega) dX6_leaves_23 (fun z3 (hz3 : z3 = gA (wv 10) 1 4) rz3 => ?_)
      have rz3a := rz3.1
      have rz3b := rz3.2
      try simp (decide := true) only [hwv, hw2, up_s, gA_s, gA_sn, gN_sF, gA_sS, gN_sS, sA_st, sF_sF, sF_sS, sS_sS, arr_s, arr_n, arr_S, gA_aI, if_true, if_false, true_and, and_true, false_and, and_false] at hz3
      refine r_imul hx hb dX6_leaves_24 ?_
      refine r_icmp_ge (tgt := 55) hx hb ⟨by omega, by omega⟩ ⟨by omega, by omega⟩ dX6_leaves_25 (by decide) (fun c4 => ?_) (fun c4 => ?_)
      · have ex2 : x2 = 6 * (aI ((w 10).1 1) 4 - 1) := by omega
        rw [show 101 + x2 = (101 + 6 * (aI ((w 10).1 1) 4 - 1)) from by omega] at hwv
        refine r_iconst hx hb dX6_leaves_55 ?_
        refine lv_istore_n (lv' := [(2, .int (iI 0)), (0, .ref (ad G 10 0)), (1, .int (iI pa))]) hx hb dX6_leaves_56 rfl hl (by decide) rfl (fun ls hl => ?_)
        have hL57 : ∀ (n : Nat) (y2 : Int) (wu : gW) (hwu : wu = up w 10 (sF (w 10) 1 (selG (selG (st ((w 10).1 1) 4 (iI (aI ((w 10).1 1) 4 - 1))) (fun i => (w 10).1 1 (i + 6)) (101 + 6 * pa)  (101 + 6 * (aI ((w 10).1 1) 4 - 1))) (fun _ => iI 0) (101 + 6 * (aI ((w 10).1 1) 4 - 1)) ((101 + 6 * (aI ((w 10).1 1) 4 - 1)) + y2)))) (H0 : Heap) (locs0 : List Loc) (ls : Array Slot) (hm : 6 - y2 < (n : Int)) (i57_0 : 0 ≤ y2) (i57_1 : y2 ≤ 6) (hW : wo G wu s H0 locs0) (hl : lv_has ls 3 [(2, .int (iI y2)), (0, .ref (ad G 10 0)), (1, .int (iI pa))]), W p l e (rmL 1 23) s m args below meth c H0 locs0 0 0 (QV G (po_X6_leaves w pa) below args s) (F0 m 57 ls []) := by
          intro n
          induction n with
          | zero =>
            intro y2 wu hwu H0 locs0 ls hm i57_0 i57_1 hW hl
            exact absurd hm (by omega)
          | succ n ih57 =>
            intro y2 wu hwu H0 locs0 ls hm i57_0 i57_1 hW hl
            have hlo2 : aI (selG (selG (st ((w 10).1 1) 4 (iI (aI ((w 10).1 1) 4 - 1))) (fun i => (w 10).1 1 (i + 6)) (101 + 6 * pa)  (101 + 6 * (aI ((w 10).1 1) 4 - 1))) (fun _ => iI 0) (101 + 6 * (aI ((w 10).1 1) 4 - 1)) ((101 + 6 * (aI ((w 10).1 1) 4 - 1)) + y2)) 4 = aI ((w 10).1 1) 4 - 1 := by rw [aI_so _ _ (by omega), aI_so _ _ (by omega), aI_e, iI_t ⟨by omega, by omega⟩]
            refine lv_iload_n hx hb dX6_leaves_57 rfl (lv_at hl 0 rfl) ?_
            refine r_bipush hx hb dX6_leaves_58 (by decide) ?_
            refine r_icmp_ge (tgt := 81) hx hb ⟨by omega, by omega⟩ ⟨by omega, by omega⟩ dX6_leaves_60 (by decide) (fun c5 => ?_) (fun c5 => ?_)
            · exact r_vret C0 hW (by unfold po_X6_leaves lvA; rw [hwu, show y2 = 6 from by omega]) dX6_leaves_81
            · refine lv_aload_n hx hb dX6_leaves_63 rfl (lv_at hl 1 rfl) ?_
              refine lv_aload_n hx hb dX6_leaves_64 rfl (lv_at hl 1 rfl) ?_
              refine r_gR C0 hW (show 10 < 11 ∧ 0 < bs 10 from ⟨by decide, by decide⟩) rfl rfl hiX6 (k := 1) (by decide) kf_X6_7 rfl rfl rfl dX6_leaves_65 ?_
              refine r_iconst hx hb dX6_leaves_68 ?_
              refine r_ild C0 hW (show 10 < 11 ∧ 1 < bs 10 from ⟨by decide, by decide⟩) rfl (n := 941) (by omega) (by omega) (by omega) dX6_leaves_69 (fun z6 (hz6 : z6 = gA (wu 10) 1 4) rz6 => ?_)
              have rz6a := rz6.1
              have rz6b := rz6.2
              try simp (decide := true) only [hwu, up_s, gA_s, gA_sn, gN_sF, gA_sS, gN_sS, sA_st, sF_sF, sF_sS, sS_sS, arr_s, arr_n, arr_S, gA_aI, if_true, if_false, true_and, and_true, false_and, and_false] at hz6
              refine lv_iload_n hx hb dX6_leaves_70 rfl (lv_at hl 0 rfl) ?_
              refine r_iconst hx hb dX6_leaves_71 ?_
              refine k_Vv (j := 10) (k0 := 0) C0 hW (c_X6_layRow l G wu z6 y2 0 rz6 ⟨by omega, by omega⟩ ⟨by omega, by omega⟩ (by omega)) km_X6_46 ki_X6_layRow ke_X6_layRow kn_X6 kc_X6_layRow rfl hdV_X6_layRow ⟨by decide, by decide⟩ (show 10 < 11 ∧ 0 < bs 10 from ⟨by decide, by decide⟩) rfl rfl rfl hl.1 rfl (Nat.le_of_ble_eq_true rfl) dX6_leaves_72 (fun w7 H1 locs1 hp7 hW => ?_)
              have hw7 : w7 = _ := hp7
              refine r_iinc (lv' := [(2, .int (iI (y2 + 1))), (0, .ref (ad G 10 0)), (1, .int (iI pa))]) hx hb dX6_leaves_75 hl (k := 0) rfl (by decide) rfl (fun ls hl => ?_)
              refine lv_goto (tgt := 57) hx hb dX6_leaves_78 (by decide) ?_
              exact ih57 (y2 + 1) _ (by simp only [hw7, hwu, up_up, up_s, arr_s, sF_sF]; rw [show (101 + 6 * (aI ((w 10).1 1) 4 - 1)) + (y2 + 1) = (101 + 6 * (aI ((w 10).1 1) 4 - 1)) + y2 + 1 from by omega, selG_s _ _ (by omega), show z6 = aI ((w 10).1 1) 4 - 1 from by omega]) _ _ ls (by omega) (by omega) (by omega) hW (lv_sub hl [0, 1, 2] rfl)
        exact hL57 7 0 _ (by rw [selG_0 _ _ (by omega)]; exact hwv) _ _ ls (by omega) (by omega) (by omega) hW (lv_sub hl [0, 1, 2] rfl)
      · refine lv_aload_n hx hb dX6_leaves_28 rfl (lv_at hl 1 rfl) ?_
        refine r_gR C0 hW (show 10 < 11 ∧ 0 < bs 10 from ⟨by decide, by decide⟩) rfl rfl hiX6 (k := 1) (by decide) kf_X6_7 rfl rfl rfl dX6_leaves_29 ?_
        refine r_bipush hx hb dX6_leaves_32 (by decide) ?_
        refine lv_iload_n hx hb dX6_leaves_34 rfl (lv_at hl 0 rfl) ?_
        refine r_iadd hx hb dX6_leaves_35 ?_
        refine lv_aload_n hx hb dX6_leaves_36 rfl (lv_at hl 1 rfl) ?_
        refine r_gR C0 hW (show 10 < 11 ∧ 0 < bs 10 from ⟨by decide, by decide⟩) rfl rfl hiX6 (k := 1) (by decide) kf_X6_7 rfl rfl rfl dX6_leaves_37 ?_
        refine r_bipush hx hb dX6_leaves_40 (by decide) ?_
        refine lv_iload_n hx hb dX6_leaves_42 rfl (lv_at hl 0 rfl) ?_
        refine r_iadd hx hb dX6_leaves_43 ?_
        refine r_bipush hx hb dX6_leaves_44 (by decide) ?_
        refine r_iadd hx hb dX6_leaves_46 ?_
        refine r_ild C0 hW (show 10 < 11 ∧ 1 < bs 10 from ⟨by decide, by decide⟩) rfl (n := 941) (by omega) (by omega) (by omega) dX6_leaves_47 (fun z8 (hz8 : z8 = gA (wv 10) 1 ((101 + x2) + 6)) rz8 => ?_)
        have rz8a := rz8.1
        have rz8b := rz8.2
        try simp (decide := true) only [hwv, hw2, up_s, gA_s, gA_sn, gN_sF, gA_sS, gN_sS, sA_st, sF_sF, sF_sS, sS_sS, arr_s, arr_n, arr_S, gA_aI, if_true, if_false, true_and, and_true, false_and, and_false] at hz8
        refine r_ist C0 hW (show 10 < 11 ∧ 1 < bs 10 from ⟨by decide, by decide⟩) (fun A => rfl) (n := 941) (v := iI z8) (by omega) (by omega) (by decide) dX6_leaves_48 (fun H1 locs1 hW => ?_)
        obtain ⟨w9, hw9⟩ : ∃ wq9 : gW, wq9 = up wv 10 (sA (wv 10) 1 (101 + x2) (iI z8)) := ⟨_, rfl⟩
        rw [← hw9] at hW
        refine r_iinc (lv' := [(2, .int (iI (x2 + 1))), (0, .ref (ad G 10 0)), (1, .int (iI pa))]) hx hb dX6_leaves_49 hl (k := 0) rfl (by decide) rfl (fun ls hl => ?_)
        refine lv_goto (tgt := 15) hx hb dX6_leaves_52 (by decide) ?_
        exact ih15 (x2 + 1) _ (by simp only [hw9, hwv, hw2, up_up, up_s, sA_st, arr_s, sF_sF]; rw [show 101 + (x2 + 1) = 101 + x2 + 1 from by omega, selG_s _ _ (by omega), show iI z8 = (w 10).1 1 (101 + x2 + 6) from by rw [hz8, aI_so _ _ (by omega), aI_n _ _ (by omega), aI_i]]) _ _ ls (by omega) (by omega) (by omega) hW (lv_sub hl [0, 1, 2] rfl)
  exact hL15 361 (6 * pa) _ (by rw [selG_0 _ _ (by omega)]; simp only [hw2, sA_st, hz1]) _ _ ls (by omega) (by omega) (by omega) hW (lv_sub hl [0, 1, 2] rfl)

/-- X6_serves: its end -/
def po_X6_serves (w : gW) (q : Int) : Int → gW → Prop := fun z w1 => z = srvN ((w 10).1 1) q ∧ w1 = up w 10 (sF (w 10) 1 (srvA ((w 10).1 1) q))
theorem hdV_X6_serves : yX6_serves.cls = RX6 ∧ yX6_serves.cls ≠ "java/lang/invoke/MethodHandle" ∧ yX6_serves.cls ≠ "java/lang/invoke/VarHandle" ∧ (parseMethodDescriptor yX6_serves.desc).map (fun d => d.parameters.length) = some 1 := by decide +kernel
set_option maxHeartbeats 4000000 in
set_option maxRecDepth 100000 in
theorem c_X6_serves (l : Launch) (G : gG) (w : gW) (q : Int) (rq : inR q) (hq9 : 0 ≤ q ∧ q ≤ 1) (hwA : wA ((w 10).1 1)) : mI l G yX6_serves (wU yX6_serves cX6_serves 5 (some .int)) (rmL 2 46) [.ref (ad G 10 0), .int (iI q)] w (po_X6_serves w q) := by
  refine mI_of (by decide +kernel) (Nat.le_of_ble_eq_true rfl) (fun p e s m args below meth c ls C0 hW hl => ?_)
  have hl : lv_has ls 5 [(0, .ref (ad G 10 0)), (1, .int (iI q))] := hl
  have hx := C0.hx
  have hb := C0.hb
  have hcc := wA_co hwA hq9
  obtain ⟨hv1, hv2, hv3, hv4⟩ := id hwA
  refine lv_aload_n hx hb dX6_serves_0 rfl (lv_at hl 0 rfl) ?_
  refine r_gR C0 hW (show 10 < 11 ∧ 0 < bs 10 from ⟨by decide, by decide⟩) rfl rfl hiX6 (k := 1) (by decide) kf_X6_7 rfl rfl rfl dX6_serves_1 ?_
  refine r_bipush hx hb dX6_serves_4 (by decide) ?_
  refine lv_iload_n hx hb dX6_serves_6 rfl (lv_at hl 1 rfl) ?_
  refine r_iadd hx hb dX6_serves_7 ?_
  refine r_ild C0 hW (show 10 < 11 ∧ 1 < bs 10 from ⟨by decide, by decide⟩) rfl (n := 941) (by omega) (by omega) (by omega) dX6_serves_8 (fun z1 (hz1 : z1 = gA (w 10) 1 (9 + q)) rz1 => ?_)
  have rz1a := rz1.1
  have rz1b := rz1.2
  try simp (decide := true) only [id, up_s, gA_s, gA_sn, gN_sF, gA_sS, gN_sS, sA_st, sF_sF, sF_sS, sS_sS, arr_s, arr_n, arr_S, gA_aI, if_true, if_false, true_and, and_true, false_and, and_false] at hz1
  have hcc1 : 0 ≤ z1 ∧ z1 ≤ 9 := by omega
  refine lv_istore_n (lv' := [(2, .int (iI z1)), (0, .ref (ad G 10 0)), (1, .int (iI q))]) hx hb dX6_serves_9 rfl hl (by decide) rfl (fun ls hl => ?_)
  refine r_iconst hx hb dX6_serves_10 ?_
  refine lv_istore_n (lv' := [(3, .int (iI 0)), (2, .int (iI z1)), (0, .ref (ad G 10 0)), (1, .int (iI q))]) hx hb dX6_serves_11 rfl hl (by decide) rfl (fun ls hl => ?_)
  refine lv_aload_n hx hb dX6_serves_12 rfl (lv_at hl 2 rfl) ?_
  refine lv_iload_n hx hb dX6_serves_13 rfl (lv_at hl 1 rfl) ?_
  refine k_Vi (j := 10) (k0 := 0) C0 hW (c_X6_nextFor l G w z1 rz1 (by first | omega | (simp (decide := true) only [id, up_s, gA_s, gA_sn, gN_sF, gA_sS, gN_sS, sA_st, sF_sF, sF_sS, sS_sS, arr_s, arr_n, arr_S, gA_aI, if_true, if_false, true_and, and_true, false_and, and_false]; omega))) km_X6_50 ki_X6_nextFor ke_X6_nextFor kn_X6 kc_X6_nextFor rfl hdV_X6_nextFor ⟨by decide, by decide⟩ (show 10 < 11 ∧ 0 < bs 10 from ⟨by decide, by decide⟩) rfl rfl rfl hl.1 rfl (Nat.le_of_ble_eq_true rfl) dX6_serves_14 (fun z2 w2 H1 locs1 rz2 hp2 hW => ?_)
  obtain ⟨hp2, hq2⟩ := hp2
  subst hq2
  have rz2a := rz2.1
  have rz2b := rz2.2
  try simp (decide := true) only [id, up_s, gA_s, gA_sn, gN_sF, gA_sS, gN_sS, sA_st, sF_sF, sF_sS, sS_sS, arr_s, arr_n, arr_S, gA_aI, if_true, if_false, true_and, and_true, false_and, and_false] at hp2
  refine lv_istore (lv' := [(4, .int (iI z2)), (3, .int (iI 0)), (2, .int (iI z1)), (0, .ref (ad G 10 0)), (1, .int (iI q))]) hx hb dX6_serves_17 hl (by decide) rfl (fun ls hl => ?_)
  have hL19 : ∀ (n : Nat) (x3 : Int) (x4 : Int) (wv : gW) (hwv : wv = up w 10 (sF (w 10) 1 (tkA ((w 10).1 1) z1 x3.toNat))) (H0 : Heap) (locs0 : List Loc) (ls : Array Slot) (hm : aI ((w 10).1 1) 0 - x3 < (n : Int)) (i19_0 : 0 ≤ x3) (i19_1 : x3 ≤ aI ((w 10).1 1) 0) (i19_2 : x4 = nxA (tkA ((w 10).1 1) z1 x3.toNat) z1) (i19_3 : cnT ((w 10).1 1) z1 x3.toNat = x3) (hW : wo G wv s H0 locs0) (hl : lv_has ls 5 [(4, .int (iI x4)), (3, .int (iI x3)), (2, .int (iI z1)), (0, .ref (ad G 10 0)), (1, .int (iI q))]), W p l e (rmL 2 46) s m args below meth c H0 locs0 0 0 (QI G (po_X6_serves w q) below args s) (F0 m 19 ls []) := by
    intro n
    induction n with
    | zero =>
      intro x3 x4 wv hwv H0 locs0 ls hm i19_0 i19_1 i19_2 i19_3 hW hl
      exact absurd hm (by omega)
    | succ n ih19 =>
      intro x3 x4 wv hwv H0 locs0 ls hm i19_0 i19_1 i19_2 i19_3 hW hl
      have hwk := wA_tk hcc1 hwA x3.toNat
      obtain ⟨hk1, hk2, hk3, hk4⟩ := id hwk
      have hlo := tkA_lo hcc1 hwA (i := 0) (by decide) (by decide) (by omega) x3.toNat
      have hnx := nxA_le (tkA ((w 10).1 1) z1 x3.toNat) z1 hk1.1
      refine lv_iload_n hx hb dX6_serves_19 rfl (lv_at hl 1 rfl) ?_
      refine lv_aload_n hx hb dX6_serves_20 rfl (lv_at hl 3 rfl) ?_
      refine r_gR C0 hW (show 10 < 11 ∧ 0 < bs 10 from ⟨by decide, by decide⟩) rfl rfl hiX6 (k := 1) (by decide) kf_X6_7 rfl rfl rfl dX6_serves_21 ?_
      refine r_iconst hx hb dX6_serves_24 ?_
      refine r_ild C0 hW (show 10 < 11 ∧ 1 < bs 10 from ⟨by decide, by decide⟩) rfl (n := 941) (by omega) (by omega) (by omega) dX6_serves_25 (fun z3 (hz3 : z3 = gA (wv 10) 1 0) rz3 => ?_)
      have rz3a := rz3.1
      have rz3b := rz3.2
      try simp (decide := true) only [hwv, up_s, gA_s, gA_sn, gN_sF, gA_sS, gN_sS, sA_st, sF_sF, sF_sS, sS_sS, arr_s, arr_n, arr_S, gA_aI, if_true, if_false, true_and, and_true, false_and, and_false] at hz3
      refine r_icmp_ge (tgt := 67) hx hb ⟨by omega, by omega⟩ rz3 dX6_serves_26 (by decide) (fun c4 => ?_) (fun c4 => ?_)
      · have hex := srv_exit (A := (w 10).1 1) (co := z1) i19_0 i19_1 i19_3 (by exact Or.inl (by omega))
        refine lv_aload_n hx hb dX6_serves_67 rfl (lv_at hl 3 rfl) ?_
        refine r_gR C0 hW (show 10 < 11 ∧ 0 < bs 10 from ⟨by decide, by decide⟩) rfl rfl hiX6 (k := 1) (by decide) kf_X6_7 rfl rfl rfl dX6_serves_68 ?_
        refine r_bipush hx hb dX6_serves_71 (by decide) ?_
        refine lv_iload_n hx hb dX6_serves_73 rfl (lv_at hl 4 rfl) ?_
        refine r_iadd hx hb dX6_serves_74 ?_
        refine lv_iload_n hx hb dX6_serves_75 rfl (lv_at hl 2 rfl) ?_
        refine r_iconst hx hb dX6_serves_76 ?_
        refine r_iadd hx hb dX6_serves_77 ?_
        refine r_bipush hx hb dX6_serves_78 (by decide) ?_
        refine r_irem hx hb ⟨by omega, by omega⟩ ⟨by omega, by omega⟩ (by omega) (by omega) dX6_serves_80 ?_
        refine r_ist C0 hW (show 10 < 11 ∧ 1 < bs 10 from ⟨by decide, by decide⟩) (fun A => rfl) (n := 941) (v := iI ((z1 + 1) % 10)) (by omega) (by omega) (by decide) dX6_serves_81 (fun H1 locs1 hW => ?_)
        obtain ⟨w5, hw5⟩ : ∃ wq9 : gW, wq9 = up wv 10 (sA (wv 10) 1 (9 + q) (iI ((z1 + 1) % 10))) := ⟨_, rfl⟩
        rw [← hw5] at hW
        refine lv_aload_n hx hb dX6_serves_82 rfl (lv_at hl 3 rfl) ?_
        refine r_gR C0 hW (show 10 < 11 ∧ 0 < bs 10 from ⟨by decide, by decide⟩) rfl rfl hiX6 (k := 1) (by decide) kf_X6_7 rfl rfl rfl dX6_serves_83 ?_
        refine r_bipush hx hb dX6_serves_86 (by decide) ?_
        refine lv_dup2_11 hx hb dX6_serves_88 rfl rfl ?_
        refine r_ild C0 hW (show 10 < 11 ∧ 1 < bs 10 from ⟨by decide, by decide⟩) rfl (n := 941) (by omega) (by omega) (by omega) dX6_serves_89 (fun z6 (hz6 : z6 = gA (w5 10) 1 6) rz6 => ?_)
        have rz6a := rz6.1
        have rz6b := rz6.2
        try simp (decide := true) only [hw5, hwv, up_s, gA_s, gA_sn, gN_sF, gA_sS, gN_sS, sA_st, sF_sF, sF_sS, sS_sS, arr_s, arr_n, arr_S, gA_aI, if_true, if_false, true_and, and_true, false_and, and_false] at hz6
        refine lv_iload_n hx hb dX6_serves_90 rfl (lv_at hl 1 rfl) ?_
        refine r_iadd hx hb dX6_serves_91 ?_
        refine r_ist C0 hW (show 10 < 11 ∧ 1 < bs 10 from ⟨by decide, by decide⟩) (fun A => rfl) (n := 941) (v := iI (z6 + x3)) (by omega) (by omega) (by decide) dX6_serves_92 (fun H1 locs1 hW => ?_)
        obtain ⟨w7, hw7⟩ : ∃ wq9 : gW, wq9 = up w5 10 (sA (w5 10) 1 6 (iI (z6 + x3))) := ⟨_, rfl⟩
        rw [← hw7] at hW
        refine lv_iload_n hx hb dX6_serves_93 rfl (lv_at hl 1 rfl) ?_
        exact r_iret C0 hW ⟨by omega, by omega⟩ (⟨by unfold srvN; rw [← hz1, hex.2], by unfold srvA; simp (decide := true) only [hw7, hw5, hwv, up_up, up_s, gA_s, gA_sn, gN_sF, gA_sS, gN_sS, sA_st, sF_sF, sF_sS, sS_sS, arr_s, arr_n, arr_S, gA_aI, if_true, if_false, true_and, and_true, false_and, and_false, ← hz1, hex.1, hex.2, hz6]⟩) dX6_serves_94
      · refine lv_iload hx hb dX6_serves_29 (lv_at hl 0 rfl) ?_
        refine r_bipush hx hb dX6_serves_31 (by decide) ?_
        refine r_icmp_eq (tgt := 67) hx hb ⟨by omega, by omega⟩ ⟨by omega, by omega⟩ dX6_serves_33 (by decide) (fun c8 => ?_) (fun c8 => ?_)
        · have hex := srv_exit (A := (w 10).1 1) (co := z1) i19_0 i19_1 i19_3 (by exact Or.inr (by omega))
          refine lv_aload_n hx hb dX6_serves_67 rfl (lv_at hl 3 rfl) ?_
          refine r_gR C0 hW (show 10 < 11 ∧ 0 < bs 10 from ⟨by decide, by decide⟩) rfl rfl hiX6 (k := 1) (by decide) kf_X6_7 rfl rfl rfl dX6_serves_68 ?_
          refine r_bipush hx hb dX6_serves_71 (by decide) ?_
          refine lv_iload_n hx hb dX6_serves_73 rfl (lv_at hl 4 rfl) ?_
          refine r_iadd hx hb dX6_serves_74 ?_
          refine lv_iload_n hx hb dX6_serves_75 rfl (lv_at hl 2 rfl) ?_
          refine r_iconst hx hb dX6_serves_76 ?_
          refine r_iadd hx hb dX6_serves_77 ?_
          refine r_bipush hx hb dX6_serves_78 (by decide) ?_
          refine r_irem hx hb ⟨by omega, by omega⟩ ⟨by omega, by omega⟩ (by omega) (by omega) dX6_serves_80 ?_
          refine r_ist C0 hW (show 10 < 11 ∧ 1 < bs 10 from ⟨by decide, by decide⟩) (fun A => rfl) (n := 941) (v := iI ((z1 + 1) % 10)) (by omega) (by omega) (by decide) dX6_serves_81 (fun H1 locs1 hW => ?_)
          obtain ⟨w9, hw9⟩ : ∃ wq9 : gW, wq9 = up wv 10 (sA (wv 10) 1 (9 + q) (iI ((z1 + 1) % 10))) := ⟨_, rfl⟩
          rw [← hw9] at hW
          refine lv_aload_n hx hb dX6_serves_82 rfl (lv_at hl 3 rfl) ?_
          refine r_gR C0 hW (show 10 < 11 ∧ 0 < bs 10 from ⟨by decide, by decide⟩) rfl rfl hiX6 (k := 1) (by decide) kf_X6_7 rfl rfl rfl dX6_serves_83 ?_
          refine r_bipush hx hb dX6_serves_86 (by decide) ?_
          refine lv_dup2_11 hx hb dX6_serves_88 rfl rfl ?_
          refine r_ild C0 hW (show 10 < 11 ∧ 1 < bs 10 from ⟨by decide, by decide⟩) rfl (n := 941) (by omega) (by omega) (by omega) dX6_serves_89 (fun z10 (hz10 : z10 = gA (w9 10) 1 6) rz10 => ?_)
          have rz10a := rz10.1
          have rz10b := rz10.2
          try simp (decide := true) only [hw9, hwv, up_s, gA_s, gA_sn, gN_sF, gA_sS, gN_sS, sA_st, sF_sF, sF_sS, sS_sS, arr_s, arr_n, arr_S, gA_aI, if_true, if_false, true_and, and_true, false_and, and_false] at hz10
          refine lv_iload_n hx hb dX6_serves_90 rfl (lv_at hl 1 rfl) ?_
          refine r_iadd hx hb dX6_serves_91 ?_
          refine r_ist C0 hW (show 10 < 11 ∧ 1 < bs 10 from ⟨by decide, by decide⟩) (fun A => rfl) (n := 941) (v := iI (z10 + x3)) (by omega) (by omega) (by decide) dX6_serves_92 (fun H1 locs1 hW => ?_)
          obtain ⟨w11, hw11⟩ : ∃ wq9 : gW, wq9 = up w9 10 (sA (w9 10) 1 6 (iI (z10 + x3))) := ⟨_, rfl⟩
          rw [← hw11] at hW
          refine lv_iload_n hx hb dX6_serves_93 rfl (lv_at hl 1 rfl) ?_
          exact r_iret C0 hW ⟨by omega, by omega⟩ (⟨by unfold srvN; rw [← hz1, hex.2], by unfold srvA; simp (decide := true) only [hw11, hw9, hwv, up_up, up_s, gA_s, gA_sn, gN_sF, gA_sS, gN_sS, sA_st, sF_sF, sF_sS, sS_sS, arr_s, arr_n, arr_S, gA_aI, if_true, if_false, true_and, and_true, false_and, and_false, ← hz1, hex.1, hex.2, hz10]⟩) dX6_serves_94
        · have hw4 := hk2 x4 (by omega) (by omega)
          refine lv_aload_n hx hb dX6_serves_36 rfl (lv_at hl 3 rfl) ?_
          refine lv_iload_n hx hb dX6_serves_37 rfl (lv_at hl 2 rfl) ?_
          refine r_iconst hx hb dX6_serves_38 ?_
          refine lv_aload_n hx hb dX6_serves_39 rfl (lv_at hl 3 rfl) ?_
          refine lv_iload hx hb dX6_serves_40 (lv_at hl 0 rfl) ?_
          refine k_Vi (j := 10) (k0 := 0) C0 hW (c_X6_brings l G wv x4 ⟨by omega, by omega⟩ (by omega) (by first | omega | (simp (decide := true) only [hwv, up_s, gA_s, gA_sn, gN_sF, gA_sS, gN_sS, sA_st, sF_sF, sF_sS, sS_sS, arr_s, arr_n, arr_S, gA_aI, if_true, if_false, true_and, and_true, false_and, and_false]; omega))) km_X6_54 ki_X6_brings ke_X6_brings kn_X6 kc_X6_brings rfl hdV_X6_brings ⟨by decide, by decide⟩ (show 10 < 11 ∧ 0 < bs 10 from ⟨by decide, by decide⟩) rfl rfl rfl hl.1 rfl (Nat.le_of_ble_eq_true rfl) dX6_serves_42 (fun z12 w12 H1 locs1 rz12 hp12 hW => ?_)
          obtain ⟨hp12, hq12⟩ := hp12
          subst hq12
          have rz12a := rz12.1
          have rz12b := rz12.2
          try simp (decide := true) only [hwv, up_s, gA_s, gA_sn, gN_sF, gA_sS, gN_sS, sA_st, sF_sF, sF_sS, sS_sS, arr_s, arr_n, arr_S, gA_aI, if_true, if_false, true_and, and_true, false_and, and_false] at hp12
          refine k_Vv (j := 10) (k0 := 0) C0 hW (c_X6_addCommoner l G wv z1 2 z12 rz1 ⟨by omega, by omega⟩ rz12 (by omega)) km_X6_57 ki_X6_addCommoner ke_X6_addCommoner kn_X6 kc_X6_addCommoner rfl hdV_X6_addCommoner ⟨by decide, by decide⟩ (show 10 < 11 ∧ 0 < bs 10 from ⟨by decide, by decide⟩) rfl rfl rfl hl.1 rfl (Nat.le_of_ble_eq_true rfl) dX6_serves_45 (fun w13 H1 locs1 hp13 hW => ?_)
          have hw13 : w13 = _ := hp13
          refine lv_aload_n hx hb dX6_serves_48 rfl (lv_at hl 3 rfl) ?_
          refine lv_iload hx hb dX6_serves_49 (lv_at hl 0 rfl) ?_
          refine k_Vv (j := 10) (k0 := 0) C0 hW (c_X6_leaves l G w13 x4 ⟨by omega, by omega⟩ (by simp (decide := true) only [hw13, hwv, up_s, gA_s, gA_sn, gN_sF, gA_sS, gN_sS, sA_st, sF_sF, sF_sS, sS_sS, arr_s, arr_n, arr_S, gA_aI, if_true, if_false, true_and, and_true, false_and, and_false]; rw [aI_n _ _ (by omega)]; omega)) km_X6_60 ki_X6_leaves ke_X6_leaves kn_X6 kc_X6_leaves rfl hdV_X6_leaves ⟨by decide, by decide⟩ (show 10 < 11 ∧ 0 < bs 10 from ⟨by decide, by decide⟩) rfl rfl rfl hl.1 rfl (Nat.le_of_ble_eq_true rfl) dX6_serves_51 (fun w14 H1 locs1 hp14 hW => ?_)
          have hw14 : w14 = _ := hp14
          have hT := wA_t1 hcc1 hwk (by omega)
          have et1 : t1A (tkA ((w 10).1 1) z1 x3.toNat) z1 = lvA (st (tkA ((w 10).1 1) z1 x3.toNat) (11 + 3 * z1 + 2) (iI (aI (tkA ((w 10).1 1) z1 x3.toNat) (11 + 3 * z1 + 2) + z12))) x4 := by unfold t1A; rw [← i19_2, ← hp12]
          refine r_iinc (lv' := [(3, .int (iI (x3 + 1))), (4, .int (iI x4)), (2, .int (iI z1)), (0, .ref (ad G 10 0)), (1, .int (iI q))]) hx hb dX6_serves_54 hl (k := 1) rfl (by decide) rfl (fun ls hl => ?_)
          refine lv_aload_n hx hb dX6_serves_57 rfl (lv_at hl 3 rfl) ?_
          refine lv_iload_n hx hb dX6_serves_58 rfl (lv_at hl 2 rfl) ?_
          refine k_Vi (j := 10) (k0 := 0) C0 hW (c_X6_nextFor l G w14 z1 rz1 (by simp (decide := true) only [hw14, hw13, hwv, up_s, gA_s, gA_sn, gN_sF, gA_sS, gN_sS, sA_st, sF_sF, sF_sS, sS_sS, arr_s, arr_n, arr_S, gA_aI, if_true, if_false, true_and, and_true, false_and, and_false]; rw [← et1]; exact hT.1)) km_X6_50 ki_X6_nextFor ke_X6_nextFor kn_X6 kc_X6_nextFor rfl hdV_X6_nextFor ⟨by decide, by decide⟩ (show 10 < 11 ∧ 0 < bs 10 from ⟨by decide, by decide⟩) rfl rfl rfl hl.1 rfl (Nat.le_of_ble_eq_true rfl) dX6_serves_59 (fun z15 w15 H1 locs1 rz15 hp15 hW => ?_)
          obtain ⟨hp15, hq15⟩ := hp15
          subst hq15
          have rz15a := rz15.1
          have rz15b := rz15.2
          try simp (decide := true) only [hw14, hw13, hwv, up_s, gA_s, gA_sn, gN_sF, gA_sS, gN_sS, sA_st, sF_sF, sF_sS, sS_sS, arr_s, arr_n, arr_S, gA_aI, if_true, if_false, true_and, and_true, false_and, and_false] at hp15
          refine lv_istore (lv' := [(4, .int (iI z15)), (3, .int (iI (x3 + 1))), (2, .int (iI z1)), (0, .ref (ad G 10 0)), (1, .int (iI q))]) hx hb dX6_serves_62 hl (by decide) rfl (fun ls hl => ?_)
          refine lv_goto (tgt := 19) hx hb dX6_serves_64 (by decide) ?_
          exact ih19 (x3 + 1) z15 _ (by simp only [hw14, hw13, hwv, up_up, up_s, arr_s, sF_sF, gA_s]; rw [toNat_s i19_0, tkA_s, if_neg (by omega), et1]) _ _ ls (by omega) (by omega) (by omega) (by rw [toNat_s i19_0, tkA_s, if_neg (by omega), et1]; exact hp15) (by rw [toNat_s i19_0, cnT_s, if_neg (by omega)]; omega) hW (lv_sub hl [0, 1, 2, 3, 4] rfl)
  exact hL19 7 0 z2 _ (by rw [show (0 : Int).toNat = 0 from rfl]; exact ((congrArg (up w 10) (sF_id _ _)).trans (up_id _ _)).symm) _ _ ls (by omega) (by omega) (by omega) (by rw [show (0 : Int).toNat = 0 from rfl]; assumption) (rfl) hW (lv_sub hl [0, 1, 2, 3, 4] rfl)
