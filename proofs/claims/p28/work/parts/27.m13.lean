/-- X5_passAll: its end -/
def po_X5_passAll (w : gW) (b0 : Nat) (b1 : Nat) (b2 : Nat) (b3 : Nat) : Int → gW → Prop := fun z w1 => ((True) ∧ (∃ f : Int, z = -100 - f ∧ ((f = gN (w 9) 0 1 ∧ (∀ q : Int, 0 ≤ q → q < gN (w 9) 0 1 → rgO (w 9) q) ∧ (gN (rgW (w 9) (gN (w 9) 0 1)) 0 4 = 0 ∨ rgN (w 9) (gN (w 9) 0 1) = 1)) ∨ (0 ≤ f ∧ f < gN (w 9) 0 1 ∧ (∀ q : Int, 0 ≤ q → q < f → rgO (w 9) q) ∧ ¬ rgO (w 9) f)) ∧ w1 = up w 9 (rgW (w 9) f)) ∧ (w1 = w1)) ∨ ((∀ q : Int, 0 ≤ q → q < gN (w 9) 0 1 → rgO (w 9) q) ∧ (0 < gN (rgW (w 9) (gN (w 9) 0 1)) 0 4) ∧ (¬ rgN (w 9) (gN (w 9) 0 1) = 1) ∧ (iI z = iI (sumX (gA (rgW (w 9) (gN (w 9) 0 1)) 3) (gN (rgW (w 9) (gN (w 9) 0 1)) 0 4))) ∧ (w1 = up (recW (up w 9 (rgW (w 9) (gN (w 9) 0 1))) b0 b1 b2 b3) 1 (grpM (w 1) (rgW (w 9) (gN (w 9) 0 1)) (gN (rgW (w 9) (gN (w 9) 0 1)) 0 4))))
theorem hdV_X5_passAll : yX5_passAll.cls = RX5 ∧ yX5_passAll.cls ≠ "java/lang/invoke/MethodHandle" ∧ yX5_passAll.cls ≠ "java/lang/invoke/VarHandle" ∧ (parseMethodDescriptor yX5_passAll.desc).map (fun d => d.parameters.length) = some 0 := by decide +kernel
set_option maxHeartbeats 4000000 in
set_option maxRecDepth 100000 in
theorem c_X5_passAll (l : Launch) (G : gG) (w : gW) {b0 : Nat} {b1 : Nat} {b2 : Nat} {b3 : Nat} (hO : okW w b0 b1 b2 b3) : mI l G yX5_passAll (wU yX5_passAll cX5_passAll 4 (some .int)) (rmL 6 124) [.ref (ad G 0 0)] w (po_X5_passAll w b0 b1 b2 b3) := by
  refine mI_of (by decide +kernel) (Nat.le_of_ble_eq_true rfl) (fun p e s m args below meth c ls C0 hW hl => ?_)
  have hl : lv_has ls 4 [(0, .ref (ad G 0 0))] := hl
  have hx := C0.hx
  have hb := C0.hb
  obtain ⟨hp4, hh, hwfs, hs4, hl9⟩ := id hO
  obtain ⟨q0, q1, q2, q3, n1, n2, n3, n4, n5, n6⟩ := id hp4
  have hwf := hwfs 1 ms_1
  obtain ⟨⟨hs1, hs2⟩, ⟨hd1, hd2, hd3⟩, hwet, -, -, -, ⟨hr1, hr2⟩, ⟨hc1, hc2⟩, hds⟩ := id hwf
  have hu1 : ∀ (w : gW) (M : gM), up w 4 M 1 = w 1 := fun w M => up_n w M (by decide)
  have hu31 : ∀ (w : gW) (M : gM), up w b3 M 1 = w 1 := fun w M => up_n w M (by omega)
  have hu91 : ∀ (w : gW) (M : gM), up w 9 M 1 = w 1 := fun w M => up_n w M (by decide)
  have hu14 : ∀ (w : gW) (M : gM), up w 1 M 4 = w 4 := fun w M => up_n w M (by decide)
  have hu94 : ∀ (w : gW) (M : gM), up w 9 M 4 = w 4 := fun w M => up_n w M (by decide)
  have hu19 : ∀ (w : gW) (M : gM), up w 1 M 9 = w 9 := fun w M => up_n w M (by decide)
  have hu49 : ∀ (w : gW) (M : gM), up w 4 M 9 = w 9 := fun w M => up_n w M (by decide)
  have hu39 : ∀ (w : gW) (M : gM), up w b3 M 9 = w 9 := fun w M => up_n w M (by omega)
  have hu42 : ∀ (w : gW) (M : gM), up w 4 M 2 = w 2 := fun w M => up_n w M (by decide)
  have hu32 : ∀ (w : gW) (M : gM), up w b3 M 2 = w 2 := fun w M => up_n w M (by omega)
  have hu20 : ∀ (w : gW) (M : gM), up w 2 M 0 = w 0 := fun w M => up_n w M (by decide)
  have hu21 : ∀ (w : gW) (M : gM), up w 2 M 1 = w 1 := fun w M => up_n w M (by decide)
  have hu31b : ∀ (w : gW) (M : gM), up w 3 M 1 = w 1 := fun w M => up_n w M (by decide)
  have hu01 : ∀ (w : gW) (M : gM), up w 0 M 1 = w 1 := fun w M => up_n w M (by decide)
  have hu24 : ∀ (w : gW) (M : gM), up w 2 M 4 = w 4 := fun w M => up_n w M (by decide)
  have hu34 : ∀ (w : gW) (M : gM), up w 3 M 4 = w 4 := fun w M => up_n w M (by decide)
  refine lv_aload_n hx hb dX5_passAll_0 rfl (lv_at hl 0 rfl) ?_
  refine r_gR C0 hW (show 0 < 11 ∧ 0 < bs 0 from ⟨by decide, by decide⟩) rfl rfl hiX5 (k := 4) (by decide) kf_X5_32 rfl rfl rfl dX5_passAll_1 ?_
  refine k_Vi (j := 9) (k0 := 0) C0 hW (c_X0_readGroups l G w (by omega)) km_X5_122 ki_X0_readGroups ke_X0_readGroups kn_X0 kc_X0_readGroups rfl hdV_X0_readGroups ⟨by decide, by decide⟩ (show 9 < 11 ∧ 0 < bs 9 from ⟨by decide, by decide⟩) rfl rfl rfl hl.1 rfl (Nat.le_of_ble_eq_true rfl) dX5_passAll_4 (fun z1 w1 H1 locs1 rz1 hp1 hW => ?_)
  have rz1a := rz1.1
  have rz1b := rz1.2
  have hf9 : z1 = -1 ∨ (0 ≤ z1 ∧ z1 ≤ 60) := by rcases hp1 with ⟨t, -⟩ | ⟨t, -⟩ | ⟨t1, t2, -⟩ <;> omega
  refine lv_istore_n (lv' := [(1, .int (iI z1)), (0, .ref (ad G 0 0))]) hx hb dX5_passAll_7 rfl hl (by decide) rfl (fun ls hl => ?_)
  refine lv_iload_n hx hb dX5_passAll_8 rfl (lv_at hl 0 rfl) ?_
  refine r_iconst hx hb dX5_passAll_9 ?_
  refine r_icmp_eq (tgt := 18) hx hb rz1 ⟨by omega, by omega⟩ dX5_passAll_10 (by decide) (fun c2 => ?_) (fun c2 => ?_)
  · obtain ⟨hok, hg1, hn1, hwT⟩ := ((hp1).resolve_right (fun t => by rcases t with ⟨t1, -⟩ | ⟨t1, -⟩ <;> omega)).2
    obtain ⟨hg60, hgr⟩ := rg_grpI (M := w 9) hl9.1 hl9.2 hok
    refine lv_aload_n hx hb dX5_passAll_18 rfl (lv_at hl 1 rfl) ?_
    refine r_gR C0 hW (show 0 < 11 ∧ 0 < bs 0 from ⟨by decide, by decide⟩) rfl rfl hiX5 (k := 3) (by decide) kf_X5_25 rfl rfl rfl dX5_passAll_19 ?_
    refine lv_aload_n hx hb dX5_passAll_22 rfl (lv_at hl 1 rfl) ?_
    refine r_gR C0 hW (show 0 < 11 ∧ 0 < bs 0 from ⟨by decide, by decide⟩) rfl rfl hiX5 (k := 0) (by decide) kf_X5_12 rfl rfl rfl dX5_passAll_23 ?_
    refine k_Vv (j := 4) (k0 := 0) C0 hW (c_X2_record l G w1 (hp4) (by unfold hst; simp only [hwT, hu94]; exact hh) (by simp only [hwT, up_up, up_s, hu1, hu31, hu91, hu14, hu94, hu19, hu49, hu39, hu42, hu32, hu20, hu21, hu31b, hu01, hu24, hu34]; exact hwf) (by first | omega | (simp (decide := true) only [hwT, up_s, gA_sF, gN_sF, gA_sA, gN_sA, gA_sS, gN_sS, if_true, if_false, true_and, and_true, false_and, and_false, hu1, hu31, hu91, hu14, hu94, hu19, hu49, hu39, hu42, hu32, hu20, hu21, hu31b, hu01, hu24, hu34]; omega))) km_X5_51 ki_X2_record ke_X2_record kn_X2 kc_X2_record rfl hdV_X2_record ⟨by decide, by decide⟩ (show 4 < 11 ∧ 0 < bs 4 from ⟨by decide, by decide⟩) rfl rfl rfl hl.1 rfl (Nat.le_of_ble_eq_true rfl) dX5_passAll_26 (fun w3 H1 locs1 hp3 hW => ?_)
    have hw3 : w3 = _ := hp3
    refine r_iconst hx hb dX5_passAll_29 ?_
    refine lv_istore_n (lv' := [(2, .int (iI 0)), (1, .int (iI z1)), (0, .ref (ad G 0 0))]) hx hb dX5_passAll_30 rfl hl (by decide) rfl (fun ls hl => ?_)
    refine r_iconst hx hb dX5_passAll_31 ?_
    refine lv_istore_n (lv' := [(3, .int (iI 0)), (2, .int (iI 0)), (1, .int (iI z1)), (0, .ref (ad G 0 0))]) hx hb dX5_passAll_32 rfl hl (by decide) rfl (fun ls hl => ?_)
    have hL33 : ∀ (n : Nat) (x2 : Int) (x3 : Int) (wv : gW) (hwv : wv = up w3 1 (grpM (w 1) (rgW (w 9) (gN (w 9) 0 1)) x3)) (H0 : Heap) (locs0 : List Loc) (ls : Array Slot) (hm : gN (rgW (w 9) (gN (w 9) 0 1)) 0 4 - x3 < (n : Int)) (i33_0 : 0 ≤ x3) (i33_1 : x3 ≤ gN (rgW (w 9) (gN (w 9) 0 1)) 0 4) (i33_2 : iI x2 = iI (sumX (gA (rgW (w 9) (gN (w 9) 0 1)) 3) x3)) (hW : wo G wv s H0 locs0) (hl : lv_has ls 4 [(3, .int (iI x3)), (2, .int (iI x2)), (1, .int (iI z1)), (0, .ref (ad G 0 0))]), W p l e (rmL 6 124) s m args below meth c H0 locs0 0 0 (QI G (po_X5_passAll w b0 b1 b2 b3) below args s) (F0 m 33 ls []) := by
      intro n
      induction n with
      | zero =>
        intro x2 x3 wv hwv H0 locs0 ls hm i33_0 i33_1 i33_2 hW hl
        exact absurd hm (by omega)
      | succ n ih33 =>
        intro x2 x3 wv hwv H0 locs0 ls hm i33_0 i33_1 i33_2 hW hl
        refine lv_iload_n hx hb dX5_passAll_33 rfl (lv_at hl 0 rfl) ?_
        refine lv_aload_n hx hb dX5_passAll_34 rfl (lv_at hl 3 rfl) ?_
        refine r_gR C0 hW (show 0 < 11 ∧ 0 < bs 0 from ⟨by decide, by decide⟩) rfl rfl hiX5 (k := 4) (by decide) kf_X5_32 rfl rfl rfl dX5_passAll_35 ?_
        refine r_gI C0 hW (show 9 < 11 ∧ 0 < bs 9 from ⟨by decide, by decide⟩) rfl rfl hiX0 (k := 4) (by decide) kf_X5_126 rfl rfl rfl dX5_passAll_38 (fun z4 (hz4 : z4 = gN (wv 9) 0 4) rz4 => ?_)
        have rz4a := rz4.1
        have rz4b := rz4.2
        try simp (decide := true) only [hwv, hw3, hwT, up_s, gA_sF, gN_sF, gA_sA, gN_sA, gA_sS, gN_sS, if_true, if_false, true_and, and_true, false_and, and_false, hu1, hu31, hu91, hu14, hu94, hu19, hu49, hu39, hu42, hu32, hu20, hu21, hu31b, hu01, hu24, hu34] at hz4
        refine r_icmp_ge (tgt := 88) hx hb ⟨by omega, by omega⟩ rz4 dX5_passAll_41 (by decide) (fun c5 => ?_) (fun c5 => ?_)
        · have ex3 : x3 = gN (rgW (w 9) (gN (w 9) 0 1)) 0 4 := by omega
          refine lv_iload_n hx hb dX5_passAll_88 rfl (lv_at hl 1 rfl) ?_
          rw [← iI_o (iI x2)]
          exact r_iret C0 hW (inR_o _) (Or.inr ⟨hok, hg1, hn1, by rw [iI_o, ← ex3]; exact i33_2, by rw [hwv, ← ex3]; simp (decide := true) only [hwv, hw3, hwT, recW, up_up, up_s, gA_sF, gN_sF, gA_sA, gN_sA, gA_sS, gN_sS, if_true, if_false, true_and, and_true, false_and, and_false, hu1, hu31, hu91, hu14, hu94, hu19, hu49, hu39, hu42, hu32, hu20, hu21, hu31b, hu01, hu24, hu34]⟩) dX5_passAll_89
        · refine lv_aload_n hx hb dX5_passAll_44 rfl (lv_at hl 3 rfl) ?_
          refine r_gR C0 hW (show 0 < 11 ∧ 0 < bs 0 from ⟨by decide, by decide⟩) rfl rfl hiX5 (k := 0) (by decide) kf_X5_12 rfl rfl rfl dX5_passAll_45 ?_
          refine lv_aload_n hx hb dX5_passAll_48 rfl (lv_at hl 3 rfl) ?_
          refine r_gR C0 hW (show 0 < 11 ∧ 0 < bs 0 from ⟨by decide, by decide⟩) rfl rfl hiX5 (k := 4) (by decide) kf_X5_32 rfl rfl rfl dX5_passAll_49 ?_
          refine r_gR C0 hW (show 9 < 11 ∧ 0 < bs 9 from ⟨by decide, by decide⟩) rfl rfl hiX0 (k := 3) (by decide) kf_X5_129 rfl rfl rfl dX5_passAll_52 ?_
          refine lv_iload_n hx hb dX5_passAll_55 rfl (lv_at hl 0 rfl) ?_
          refine r_ild C0 hW (show 9 < 11 ∧ 3 < bs 9 from ⟨by decide, by decide⟩) rfl (n := 60) (by omega) (by omega) (by omega) dX5_passAll_56 (fun z6 (hz6 : z6 = gA (wv 9) 3 x3) rz6 => ?_)
          have rz6a := rz6.1
          have rz6b := rz6.2
          try simp (decide := true) only [hwv, hw3, hwT, up_s, gA_sF, gN_sF, gA_sA, gN_sA, gA_sS, gN_sS, if_true, if_false, true_and, and_true, false_and, and_false, hu1, hu31, hu91, hu14, hu94, hu19, hu49, hu39, hu42, hu32, hu20, hu21, hu31b, hu01, hu24, hu34] at hz6
          refine lv_aload_n hx hb dX5_passAll_57 rfl (lv_at hl 3 rfl) ?_
          refine r_gR C0 hW (show 0 < 11 ∧ 0 < bs 0 from ⟨by decide, by decide⟩) rfl rfl hiX5 (k := 4) (by decide) kf_X5_32 rfl rfl rfl dX5_passAll_58 ?_
          refine r_gR C0 hW (show 9 < 11 ∧ 0 < bs 9 from ⟨by decide, by decide⟩) rfl rfl hiX0 (k := 2) (by decide) kf_X5_132 rfl rfl rfl dX5_passAll_61 ?_
          refine lv_iload_n hx hb dX5_passAll_64 rfl (lv_at hl 0 rfl) ?_
          refine r_ild C0 hW (show 9 < 11 ∧ 2 < bs 9 from ⟨by decide, by decide⟩) rfl (n := 60) (by omega) (by omega) (by omega) dX5_passAll_65 (fun z7 (hz7 : z7 = gA (wv 9) 2 x3) rz7 => ?_)
          have rz7a := rz7.1
          have rz7b := rz7.2
          try simp (decide := true) only [hwv, hw3, hwT, up_s, gA_sF, gN_sF, gA_sA, gN_sA, gA_sS, gN_sS, if_true, if_false, true_and, and_true, false_and, and_false, hu1, hu31, hu91, hu14, hu94, hu19, hu49, hu39, hu42, hu32, hu20, hu21, hu31b, hu01, hu24, hu34] at hz7
          have hgx := hgr x3 i33_0 (by omega)
          refine k_Vi (j := 1) (k0 := 0) C0 hW (c_X3_passDays l G wv ms_1 (by rw [hwv, up_s]; exact wf_grpM _ _ hwf) z6 z7 rz6 rz7 (by omega) (by omega)) km_X5_119 ki_X3_passDays ke_X3_passDays kn_X3 kc_X3_passDays rfl hdV_X3_passDays ⟨by decide, by decide⟩ (show 1 < 11 ∧ 0 < bs 1 from ⟨by decide, by decide⟩) (ceX_m ms_1 G 0 _ _) rfl rfl hl.1 rfl (Nat.le_of_ble_eq_true rfl) dX5_passAll_66 (fun z8 w8 H1 locs1 rz8 hp8 hW => ?_)
          obtain ⟨hp8, hw8⟩ := hp8
          have rz8a := rz8.1
          have rz8b := rz8.2
          refine lv_pop hx hb dX5_passAll_69 rfl ?_
          refine lv_iload_n hx hb dX5_passAll_70 rfl (lv_at hl 1 rfl) ?_
          refine lv_aload_n hx hb dX5_passAll_71 rfl (lv_at hl 3 rfl) ?_
          refine r_gR C0 hW (show 0 < 11 ∧ 0 < bs 0 from ⟨by decide, by decide⟩) rfl rfl hiX5 (k := 4) (by decide) kf_X5_32 rfl rfl rfl dX5_passAll_72 ?_
          refine r_gR C0 hW (show 9 < 11 ∧ 0 < bs 9 from ⟨by decide, by decide⟩) rfl rfl hiX0 (k := 3) (by decide) kf_X5_129 rfl rfl rfl dX5_passAll_75 ?_
          refine lv_iload_n hx hb dX5_passAll_78 rfl (lv_at hl 0 rfl) ?_
          refine r_ild C0 hW (show 9 < 11 ∧ 3 < bs 9 from ⟨by decide, by decide⟩) rfl (n := 60) (by omega) (by omega) (by omega) dX5_passAll_79 (fun z9 (hz9 : z9 = gA (w8 9) 3 x3) rz9 => ?_)
          have rz9a := rz9.1
          have rz9b := rz9.2
          try simp (decide := true) only [hw8, hwv, hw3, hwT, up_s, gA_sF, gN_sF, gA_sA, gN_sA, gA_sS, gN_sS, if_true, if_false, true_and, and_true, false_and, and_false, hu1, hu31, hu91, hu14, hu94, hu19, hu49, hu39, hu42, hu32, hu20, hu21, hu31b, hu01, hu24, hu34] at hz9
          refine r_iadd hx hb dX5_passAll_80 ?_
          refine lv_istore_n (lv' := [(2, .int (iI (x2 + z9))), (3, .int (iI x3)), (1, .int (iI z1)), (0, .ref (ad G 0 0))]) hx hb dX5_passAll_81 rfl hl (by decide) rfl (fun ls hl => ?_)
          refine r_iinc (lv' := [(3, .int (iI (x3 + 1))), (2, .int (iI (x2 + z9))), (1, .int (iI z1)), (0, .ref (ad G 0 0))]) hx hb dX5_passAll_82 hl (k := 1) rfl (by decide) rfl (fun ls hl => ?_)
          refine lv_goto (tgt := 33) hx hb dX5_passAll_85 (by decide) ?_
          exact ih33 (x2 + z9) (x3 + 1) _ (by rw [grpM_s _ _ (by omega)]; simp (decide := true) only [hw8, hwv, hw3, hwT, up_up, up_s, gA_sF, gN_sF, gA_sA, gN_sA, gA_sS, gN_sS, if_true, if_false, true_and, and_true, false_and, and_false, hu1, hu31, hu91, hu14, hu94, hu19, hu49, hu39, hu42, hu32, hu20, hu21, hu31b, hu01, hu24, hu34, hz4, hz6, hz7, hz9]) _ _ ls (by omega) (by omega) (by omega) (by rw [← iI_add, i33_2, iI_add, sumX_s _ (by omega)]; congr 2 <;> omega) hW (lv_sub hl [0, 1, 2, 3] rfl)
    exact hL33 61 0 0 _ (by rw [grpM_0]; exact ((congrArg (up w3 1) (show w 1 = w3 1 from by simp only [hw3, hwT, up_up, up_s, gA_sF, gN_sF, gA_sA, gN_sA, gA_sS, gN_sS, if_true, if_false, true_and, and_true, false_and, and_false, hu1, hu31, hu91, hu14, hu94, hu19, hu49, hu39, hu42, hu32, hu20, hu21, hu31b, hu01, hu24, hu34])).trans (up_id _ _)).symm) _ _ ls (by omega) (by omega) (by omega) (by rw [sumX_0]) hW (lv_sub hl [0, 1, 2, 3] rfl)
  · refine r_bipush hx hb dX5_passAll_13 (by decide) ?_
    refine lv_iload_n hx hb dX5_passAll_15 rfl (lv_at hl 0 rfl) ?_
    refine r_isub hx hb dX5_passAll_16 ?_
    exact r_iret C0 hW ⟨by omega, by omega⟩ (by refine Or.inl ⟨trivial, ?_, rfl⟩; rcases hp1 with ⟨t, -⟩ | ⟨t1, t2, t3, t4⟩ | ⟨t1, t2, t3, t4, t5⟩; (exact absurd t (by assumption)); (exact ⟨_, rfl, Or.inl ⟨t1, t2, t3⟩, by rw [t1]; exact t4⟩); (exact ⟨_, rfl, Or.inr ⟨t1, t2, t3, t4⟩, t5⟩)) dX5_passAll_17
