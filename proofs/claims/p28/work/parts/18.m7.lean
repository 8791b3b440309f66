/-- X3_useDayIfLeft: its end -/
def po_X3_useDayIfLeft (w : gW) (j : Nat) (co : Int) : gW → Prop := fun w1 => w1 = up w j (usdM (w j) co)
theorem hdV_X3_useDayIfLeft : yX3_useDayIfLeft.cls = RX3 ∧ yX3_useDayIfLeft.cls ≠ "java/lang/invoke/MethodHandle" ∧ yX3_useDayIfLeft.cls ≠ "java/lang/invoke/VarHandle" ∧ (parseMethodDescriptor yX3_useDayIfLeft.desc).map (fun d => d.parameters.length) = some 1 := by decide +kernel
set_option maxHeartbeats 4000000 in
set_option maxRecDepth 100000 in
theorem c_X3_useDayIfLeft (l : Launch) (G : gG) (w : gW) {j : Nat} (hj : ms j) (hwf : wf (w j)) (co : Int) (rco : inR co) : mV l G yX3_useDayIfLeft (wU yX3_useDayIfLeft cX3_useDayIfLeft 2 none) (rmL 3 63) [.ref (ad G j 0), .int (iI co)] w (po_X3_useDayIfLeft w j co) := by
  refine mV_of (by decide +kernel) (Nat.le_of_ble_eq_true rfl) (fun p e s m args below meth c ls C0 hW hl => ?_)
  have hl : lv_has ls 2 [(0, .ref (ad G j 0)), (1, .int (iI co))] := hl
  have hx := C0.hx
  have hb := C0.hb
  obtain ⟨⟨hs1, hs2⟩, ⟨hd1, hd2, hd3⟩, -, -, -, -, ⟨hr1, hr2⟩, ⟨hc1, hc2⟩, hds⟩ := id hwf
  refine lv_aload_n hx hb dX3_useDayIfLeft_0 rfl (lv_at hl 0 rfl) ?_
  refine lv_iload_n hx hb dX3_useDayIfLeft_1 rfl (lv_at hl 1 rfl) ?_
  refine k_Vi (j := j) (k0 := 0) C0 hW (c_X3_hasDayLeft l G w hj hwf co rco) km_X3_74 ki_X3_hasDayLeft ke_X3_hasDayLeft kn_X3 kc_X3_hasDayLeft rfl hdV_X3_hasDayLeft ⟨by decide, by decide⟩ (ms_lt hj 0 (by decide)) (ceX_m hj G 0 _ _) rfl rfl hl.1 rfl (Nat.le_of_ble_eq_true rfl) dX3_useDayIfLeft_2 (fun z1 w1 H1 locs1 rz1 hp1 hW => ?_)
  obtain ⟨hp1, hq1⟩ := hp1
  subst hq1
  have rz1a := rz1.1
  have rz1b := rz1.2
  rcases hp1 with ⟨e1, hp1⟩ | ⟨e1, hp1⟩
  · subst e1
    obtain ⟨⟨hp11, hp12⟩, hp13⟩ := id hp1
    refine r_if_eq (tgt := 18) hx hb ⟨by omega, by omega⟩ dX3_useDayIfLeft_5 (by decide) (fun q => absurd q (by decide)) (fun _ => ?_)
    refine lv_aload_n hx hb dX3_useDayIfLeft_8 rfl (lv_at hl 0 rfl) ?_
    refine r_gR C0 hW (ms_lt hj 0 (by decide)) (ceX_m hj G 0 _ _) rfl hiX3 (k := 4) (by decide) kf_X3_24 rfl rfl rfl dX3_useDayIfLeft_9 ?_
    refine lv_iload_n hx hb dX3_useDayIfLeft_12 rfl (lv_at hl 1 rfl) ?_
    refine lv_dup2_11 hx hb dX3_useDayIfLeft_13 rfl rfl ?_
    refine r_ild C0 hW (ms_lt hj 5 (by decide)) (ceX_m hj G 5 _ _) (n := 10) (by omega) (by omega) (by omega) dX3_useDayIfLeft_14 (fun z2 (hz2 : z2 = gA (w j) 5 co) rz2 => ?_)
    have rz2a := rz2.1
    have rz2b := rz2.2
    refine r_iconst hx hb dX3_useDayIfLeft_15 ?_
    refine r_iadd hx hb dX3_useDayIfLeft_16 ?_
    refine r_ist C0 hW (ms_lt hj 5 (by decide)) (fun A => (ceX_m hj G 5 _ _)) (n := 10) (v := iI (z2 + 1)) (by omega) (by omega) (by decide) dX3_useDayIfLeft_17 (fun H1 locs1 hW => ?_)
    obtain ⟨w3, hw3⟩ : ∃ wq9 : gW, wq9 = up w j (sA (w j) 5 co (iI (z2 + 1))) := ⟨_, rfl⟩
    rw [← hw3] at hW
    exact r_vret C0 hW (by unfold po_X3_useDayIfLeft usdM; rw [@if_pos _ (Classical.propDecidable _) hp1]; simp only [hw3, hz2]) dX3_useDayIfLeft_18
  · subst e1
    refine r_if_eq (tgt := 18) hx hb ⟨by omega, by omega⟩ dX3_useDayIfLeft_5 (by decide) (fun _ => ?_) (fun q => absurd q (by decide))
    exact r_vret C0 hW (by unfold po_X3_useDayIfLeft usdM; rw [@if_neg _ (Classical.propDecidable _) hp1, up_id]) dX3_useDayIfLeft_18

/-- X3_givePeats: its end -/
def po_X3_givePeats (w : gW) (j : Nat) (a : Int) (b : Int) : gW → Prop := fun w1 => w1 = up w j (givM (w j) a b)
theorem hdV_X3_givePeats : yX3_givePeats.cls = RX3 ∧ yX3_givePeats.cls ≠ "java/lang/invoke/MethodHandle" ∧ yX3_givePeats.cls ≠ "java/lang/invoke/VarHandle" ∧ (parseMethodDescriptor yX3_givePeats.desc).map (fun d => d.parameters.length) = some 2 := by decide +kernel
set_option maxHeartbeats 4000000 in
set_option maxRecDepth 100000 in
theorem c_X3_givePeats (l : Launch) (G : gG) (w : gW) {j : Nat} (hj : ms j) (hwf : wf (w j)) (a : Int) (b : Int) (ra : inR a) (rb : inR b) : mV l G yX3_givePeats (wU yX3_givePeats cX3_givePeats 4 none) (rmL 2 42) [.ref (ad G j 0), .int (iI a), .int (iI b)] w (po_X3_givePeats w j a b) := by
  refine mV_of (by decide +kernel) (Nat.le_of_ble_eq_true rfl) (fun p e s m args below meth c ls C0 hW hl => ?_)
  have hl : lv_has ls 4 [(0, .ref (ad G j 0)), (1, .int (iI a)), (2, .int (iI b))] := hl
  have hx := C0.hx
  have hb := C0.hb
  obtain ⟨⟨hs1, hs2⟩, ⟨hd1, hd2, hd3⟩, -, -, -, -, ⟨hr1, hr2⟩, ⟨hc1, hc2⟩, hds⟩ := id hwf
  refine lv_iload_n hx hb dX3_givePeats_0 rfl (lv_at hl 1 rfl) ?_
  refine k_Ni (own := "") C0 hW (As := [.int (iI a)]) (c_X5_isCommoner l G w a ra) C0.nst.2.2.2.2.2.2.2.1 ks_X5_isCommoner kn_X5 kc_X5_isCommoner hdS_X5_isCommoner ⟨by decide, by decide⟩ rfl hl.1 rfl (Nat.le_of_ble_eq_true rfl) dX3_givePeats_1 (fun z1 w1 H1 locs1 rz1 hp1 hW => ?_)
  obtain ⟨hp1, hq1⟩ := hp1
  subst hq1
  have rz1a := rz1.1
  have rz1b := rz1.2
  rcases hp1 with ⟨e1, hp1⟩ | ⟨e1, hp1⟩
  · subst e1
    refine r_if_eq (tgt := 46) hx hb ⟨by omega, by omega⟩ dX3_givePeats_4 (by decide) (fun q => absurd q (by decide)) (fun _ => ?_)
    refine lv_iload_n hx hb dX3_givePeats_7 rfl (lv_at hl 2 rfl) ?_
    refine k_Ni (own := "") C0 hW (As := [.int (iI b)]) (c_X5_isCommoner l G w b rb) C0.nst.2.2.2.2.2.2.2.1 ks_X5_isCommoner kn_X5 kc_X5_isCommoner hdS_X5_isCommoner ⟨by decide, by decide⟩ rfl hl.1 rfl (Nat.le_of_ble_eq_true rfl) dX3_givePeats_8 (fun z2 w2 H1 locs1 rz2 hp2 hW => ?_)
    obtain ⟨hp2, hq2⟩ := hp2
    subst hq2
    have rz2a := rz2.1
    have rz2b := rz2.2
    rcases hp2 with ⟨e2, hp2⟩ | ⟨e2, hp2⟩
    · subst e2
      refine r_if_eq (tgt := 46) hx hb ⟨by omega, by omega⟩ dX3_givePeats_11 (by decide) (fun q => absurd q (by decide)) (fun _ => ?_)
      refine r_bipush hx hb dX3_givePeats_14 (by decide) ?_
      refine lv_aload_n hx hb dX3_givePeats_16 rfl (lv_at hl 0 rfl) ?_
      refine r_gR C0 hW (ms_lt hj 0 (by decide)) (ceX_m hj G 0 _ _) rfl hiX3 (k := 5) (by decide) kf_X3_27 rfl rfl rfl dX3_givePeats_17 ?_
      refine lv_iload_n hx hb dX3_givePeats_20 rfl (lv_at hl 1 rfl) ?_
      refine r_ild C0 hW (ms_lt hj 6 (by decide)) (ceX_m hj G 6 _ _) (n := 10) (by omega) (by omega) (by omega) dX3_givePeats_21 (fun z3 (hz3 : z3 = gA (w j) 6 a) rz3 => ?_)
      have rz3a := rz3.1
      have rz3b := rz3.2
      refine r_min C0 ⟨by omega, by omega⟩ rz3 km_X3_149 ks_J9_min_7cf53 kn_J9 kc_min rfl hl.1 (by decide) (Nat.le_of_ble_eq_true rfl) dX3_givePeats_22 ?_
      refine lv_istore_n (lv' := [(3, .int (iI (min 20 z3))), (0, .ref (ad G j 0)), (1, .int (iI a)), (2, .int (iI b))]) hx hb dX3_givePeats_25 rfl hl (by decide) rfl (fun ls hl => ?_)
      refine lv_aload_n hx hb dX3_givePeats_26 rfl (lv_at hl 1 rfl) ?_
      refine r_gR C0 hW (ms_lt hj 0 (by decide)) (ceX_m hj G 0 _ _) rfl hiX3 (k := 5) (by decide) kf_X3_27 rfl rfl rfl dX3_givePeats_27 ?_
      refine lv_iload_n hx hb dX3_givePeats_30 rfl (lv_at hl 2 rfl) ?_
      refine lv_dup2_11 hx hb dX3_givePeats_31 rfl rfl ?_
      refine r_ild C0 hW (ms_lt hj 6 (by decide)) (ceX_m hj G 6 _ _) (n := 10) (by omega) (by omega) (by omega) dX3_givePeats_32 (fun z4 (hz4 : z4 = gA (w j) 6 a) rz4 => ?_)
      have rz4a := rz4.1
      have rz4b := rz4.2
      refine lv_iload_n hx hb dX3_givePeats_33 rfl (lv_at hl 0 rfl) ?_
      refine r_isub hx hb dX3_givePeats_34 ?_
      refine r_ist C0 hW (ms_lt hj 6 (by decide)) (fun A => (ceX_m hj G 6 _ _)) (n := 10) (v := iI (z4 - (min 20 z3))) (by omega) (by omega) (by decide) dX3_givePeats_35 (fun H1 locs1 hW => ?_)
      obtain ⟨w5, hw5⟩ : ∃ wq9 : gW, wq9 = up w j (sA (w j) 6 a (iI (z4 - (min 20 z3)))) := ⟨_, rfl⟩
      rw [← hw5] at hW
      refine lv_aload_n hx hb dX3_givePeats_36 rfl (lv_at hl 1 rfl) ?_
      refine r_gR C0 hW (ms_lt hj 0 (by decide)) (ceX_m hj G 0 _ _) rfl hiX3 (k := 5) (by decide) kf_X3_27 rfl rfl rfl dX3_givePeats_37 ?_
      refine lv_iload_n hx hb dX3_givePeats_40 rfl (lv_at hl 3 rfl) ?_
      refine lv_dup2_11 hx hb dX3_givePeats_41 rfl rfl ?_
      refine r_ild C0 hW (ms_lt hj 6 (by decide)) (ceX_m hj G 6 _ _) (n := 10) (by omega) (by omega) (by omega) dX3_givePeats_42 (fun z6 (hz6 : z6 = gA (w5 j) 6 b) rz6 => ?_)
      have rz6a := rz6.1
      have rz6b := rz6.2
      try simp (decide := true) only [hw5, up_s, gA_sF, gN_sF, gA_sA, gN_sA, gA_sS, gN_sS, if_true, if_false, true_and, and_true, false_and, and_false] at hz6
      refine lv_iload_n hx hb dX3_givePeats_43 rfl (lv_at hl 0 rfl) ?_
      refine r_iadd hx hb dX3_givePeats_44 ?_
      refine r_ist C0 hW (ms_lt hj 6 (by decide)) (fun A => (ceX_m hj G 6 _ _)) (n := 10) (v := iI (z6 + (min 20 z3))) (by omega) (by omega) (by decide) dX3_givePeats_45 (fun H1 locs1 hW => ?_)
      obtain ⟨w7, hw7⟩ : ∃ wq9 : gW, wq9 = up w5 j (sA (w5 j) 6 b (iI (z6 + (min 20 z3)))) := ⟨_, rfl⟩
      rw [← hw7] at hW
      exact r_vret C0 hW (by unfold po_X3_givePeats givM; rw [if_pos ⟨hp1, hp2⟩]; simp (decide := true) only [hw7, hw5, up_up, up_s, gA_sF, gN_sF, gA_sA, gN_sA, gA_sS, gN_sS, if_true, if_false, true_and, and_true, false_and, and_false, hz3, hz4, hz6]) dX3_givePeats_46
    · subst e2
      refine r_if_eq (tgt := 46) hx hb ⟨by omega, by omega⟩ dX3_givePeats_11 (by decide) (fun _ => ?_) (fun q => absurd q (by decide))
      exact r_vret C0 hW (by unfold po_X3_givePeats givM; rw [if_neg (fun q => hp2 q.2), up_id]) dX3_givePeats_46
  · subst e1
    refine r_if_eq (tgt := 46) hx hb ⟨by omega, by omega⟩ dX3_givePeats_4 (by decide) (fun _ => ?_) (fun q => absurd q (by decide))
    exact r_vret C0 hW (by unfold po_X3_givePeats givM; rw [if_neg (fun q => hp1 q.1), up_id]) dX3_givePeats_46

/-- X3_settleOldest: its end -/
def po_X3_settleOldest (w : gW) (j : Nat) : Int → gW → Prop := fun z w1 => z = stlZ (w j) ∧ w1 = up w j (stlM (w j))
theorem hdV_X3_settleOldest : yX3_settleOldest.cls = RX3 ∧ yX3_settleOldest.cls ≠ "java/lang/invoke/MethodHandle" ∧ yX3_settleOldest.cls ≠ "java/lang/invoke/VarHandle" ∧ (parseMethodDescriptor yX3_settleOldest.desc).map (fun d => d.parameters.length) = some 0 := by decide +kernel
set_option maxHeartbeats 4000000 in
set_option maxRecDepth 100000 in
theorem c_X3_settleOldest (l : Launch) (G : gG) (w : gW) {j : Nat} (hj : ms j) (hwf : wf (w j)) (ho9 : gN (w j) 14 4 < gN (w j) 14 5) : mI l G yX3_settleOldest (wU yX3_settleOldest cX3_settleOldest 5 (some .int)) (rmL 4 84) [.ref (ad G j 0)] w (po_X3_settleOldest w j) := by
  refine mI_of (by decide +kernel) (Nat.le_of_ble_eq_true rfl) (fun p e s m args below meth c ls C0 hW hl => ?_)
  have hl : lv_has ls 5 [(0, .ref (ad G j 0))] := hl
  have hx := C0.hx
  have hb := C0.hb
  obtain ⟨⟨hs1, hs2⟩, ⟨hd1, hd2, hd3⟩, -, -, -, -, ⟨hr1, hr2⟩, ⟨hc1, hc2⟩, hds⟩ := id hwf
  have hM1 : wf (stl1 (w j)) := wf_stl1 hwf ho9
  refine lv_aload_n hx hb dX3_settleOldest_0 rfl (lv_at hl 0 rfl) ?_
  refine r_gR C0 hW (ms_lt hj 0 (by decide)) (ceX_m hj G 0 _ _) rfl hiX3 (k := 7) (by decide) kf_X3_40 rfl rfl rfl dX3_settleOldest_1 ?_
  refine r_iconst hx hb dX3_settleOldest_4 ?_
  refine k_Vi (j := j) (k0 := 14) C0 hW (c_X1_openOfRank l G w hj hwf 0 ⟨by omega, by omega⟩) km_X3_124 ki_X1_openOfRank ke_X1_openOfRank kn_X1 kc_X1_openOfRank rfl hdV_X1_openOfRank ⟨by decide, by decide⟩ (ms_lt hj 14 (by decide)) (ceX_m hj G 14 _ _) rfl rfl hl.1 rfl (Nat.le_of_ble_eq_true rfl) dX3_settleOldest_5 (fun z1 w1 H1 locs1 rz1 hp1 hW => ?_)
  obtain ⟨hp1, hq1⟩ := hp1
  subst hq1
  have rz1a := rz1.1
  have rz1b := rz1.2
  have ez1 : z1 = gN (w j) 14 4 := by omega
  refine lv_istore_n (lv' := [(1, .int (iI z1)), (0, .ref (ad G j 0))]) hx hb dX3_settleOldest_8 rfl hl (by decide) rfl (fun ls hl => ?_)
  refine lv_iload_n hx hb dX3_settleOldest_9 rfl (lv_at hl 0 rfl) ?_
  refine r_bipush hx hb dX3_settleOldest_10 (by decide) ?_
  refine r_icmp_ne (tgt := 18) hx hb rz1 ⟨by omega, by omega⟩ dX3_settleOldest_12 (by decide) (fun c2 => ?_) (fun c2 => ?_)
  · refine lv_aload_n hx hb dX3_settleOldest_18 rfl (lv_at hl 1 rfl) ?_
    refine r_gR C0 hW (ms_lt hj 0 (by decide)) (ceX_m hj G 0 _ _) rfl hiX3 (k := 7) (by decide) kf_X3_40 rfl rfl rfl dX3_settleOldest_19 ?_
    refine lv_dup hx hb dX3_settleOldest_22 rfl ?_
    refine r_gI C0 hW (ms_lt hj 14 (by decide)) (ceX_m hj G 14 _ _) rfl hiX1 (k := 4) (by decide) kf_X3_127 rfl rfl rfl dX3_settleOldest_23 (fun z3 (hz3 : z3 = gN (w j) 14 4) rz3 => ?_)
    have rz3a := rz3.1
    have rz3b := rz3.2
    refine r_iconst hx hb dX3_settleOldest_26 ?_
    refine r_iadd hx hb dX3_settleOldest_27 ?_
    refine r_pI C0 hW (ms_lt hj 14 (by decide)) (ceX_m hj G 14 _ _) rfl hiX1 tyX1 tyX1_ok nmX1 (k := 4) (v := iI (z3 + 1)) (by decide) kf_X3_127 rfl rfl rfl (tyX1_ok 4 (by decide)) rfl rfl (by simp) (ceX_m hj G 14 _ _) dX3_settleOldest_28 (fun H1 locs1 hW => ?_)
    obtain ⟨w4, hw4⟩ : ∃ wq9 : gW, wq9 = up w j (sS (w j) 14 4 (iI (z3 + 1))) := ⟨_, rfl⟩
    rw [← hw4] at hW
    have hsM : gN (w4 j) 7 6 ≤ 120 := by simp (decide := true) only [hw4, up_s, gA_sF, gN_sF, gA_sA, gN_sA, gA_sS, gN_sS, if_true, if_false, true_and, and_true, false_and, and_false]; omega
    refine lv_aload_n hx hb dX3_settleOldest_31 rfl (lv_at hl 1 rfl) ?_
    refine r_gR C0 hW (ms_lt hj 0 (by decide)) (ceX_m hj G 0 _ _) rfl hiX3 (k := 7) (by decide) kf_X3_40 rfl rfl rfl dX3_settleOldest_32 ?_
    refine r_gR C0 hW (ms_lt hj 14 (by decide)) (ceX_m hj G 14 _ _) rfl hiX1 (k := 0) (by decide) kf_X3_130 rfl rfl rfl dX3_settleOldest_35 ?_
    refine lv_iload_n hx hb dX3_settleOldest_38 rfl (lv_at hl 0 rfl) ?_
    refine r_ild C0 hW (ms_lt hj 15 (by decide)) (ceX_m hj G 15 _ _) (n := 120) (by omega) (by omega) (by omega) dX3_settleOldest_39 (fun z5 (hz5 : z5 = gA (w4 j) 15 z1) rz5 => ?_)
    have rz5a := rz5.1
    have rz5b := rz5.2
    try simp (decide := true) only [hw4, up_s, gA_sF, gN_sF, gA_sA, gN_sA, gA_sS, gN_sS, if_true, if_false, true_and, and_true, false_and, and_false] at hz5
    refine lv_istore_n (lv' := [(2, .int (iI z5)), (1, .int (iI z1)), (0, .ref (ad G j 0))]) hx hb dX3_settleOldest_40 rfl hl (by decide) rfl (fun ls hl => ?_)
    refine lv_aload_n hx hb dX3_settleOldest_41 rfl (lv_at hl 2 rfl) ?_
    refine r_gI C0 hW (ms_lt hj 0 (by decide)) (ceX_m hj G 0 _ _) rfl hiX3 (k := 9) (by decide) kf_X3_59 rfl rfl rfl dX3_settleOldest_42 (fun z6 (hz6 : z6 = gN (w4 j) 0 9) rz6 => ?_)
    have rz6a := rz6.1
    have rz6b := rz6.2
    try simp (decide := true) only [hw4, up_s, gA_sF, gN_sF, gA_sA, gN_sA, gA_sS, gN_sS, if_true, if_false, true_and, and_true, false_and, and_false] at hz6
    refine r_if_ne (tgt := 56) hx hb rz6 dX3_settleOldest_45 (by decide) (fun c7 => ?_) (fun c7 => ?_)
    · refine lv_aload_n hx hb dX3_settleOldest_56 rfl (lv_at hl 2 rfl) ?_
      refine r_gR C0 hW (ms_lt hj 0 (by decide)) (ceX_m hj G 0 _ _) rfl hiX3 (k := 7) (by decide) kf_X3_40 rfl rfl rfl dX3_settleOldest_57 ?_
      refine r_gR C0 hW (ms_lt hj 14 (by decide)) (ceX_m hj G 14 _ _) rfl hiX1 (k := 1) (by decide) kf_X3_136 rfl rfl rfl dX3_settleOldest_60 ?_
      refine lv_iload_n hx hb dX3_settleOldest_63 rfl (lv_at hl 1 rfl) ?_
      refine r_ild C0 hW (ms_lt hj 16 (by decide)) (ceX_m hj G 16 _ _) (n := 120) (by omega) (by omega) (by omega) dX3_settleOldest_64 (fun z8 (hz8 : z8 = gA (w4 j) 16 z1) rz8 => ?_)
      have rz8a := rz8.1
      have rz8b := rz8.2
      try simp (decide := true) only [hw4, up_s, gA_sF, gN_sF, gA_sA, gN_sA, gA_sS, gN_sS, if_true, if_false, true_and, and_true, false_and, and_false] at hz8
      refine lv_istore_n (lv' := [(3, .int (iI z8)), (2, .int (iI z5)), (1, .int (iI z1)), (0, .ref (ad G j 0))]) hx hb dX3_settleOldest_65 rfl hl (by decide) rfl (fun ls hl => ?_)
      refine lv_aload_n hx hb dX3_settleOldest_66 rfl (lv_at hl 3 rfl) ?_
      refine r_gR C0 hW (ms_lt hj 0 (by decide)) (ceX_m hj G 0 _ _) rfl hiX3 (k := 7) (by decide) kf_X3_40 rfl rfl rfl dX3_settleOldest_67 ?_
      refine r_gR C0 hW (ms_lt hj 14 (by decide)) (ceX_m hj G 14 _ _) rfl hiX1 (k := 2) (by decide) kf_X3_139 rfl rfl rfl dX3_settleOldest_70 ?_
      refine lv_iload_n hx hb dX3_settleOldest_73 rfl (lv_at hl 2 rfl) ?_
      refine r_ild C0 hW (ms_lt hj 17 (by decide)) (ceX_m hj G 17 _ _) (n := 120) (by omega) (by omega) (by omega) dX3_settleOldest_74 (fun z9 (hz9 : z9 = gA (w4 j) 17 z1) rz9 => ?_)
      have rz9a := rz9.1
      have rz9b := rz9.2
      try simp (decide := true) only [hw4, up_s, gA_sF, gN_sF, gA_sA, gN_sA, gA_sS, gN_sS, if_true, if_false, true_and, and_true, false_and, and_false] at hz9
      refine lv_istore (lv' := [(4, .int (iI z9)), (3, .int (iI z8)), (2, .int (iI z5)), (1, .int (iI z1)), (0, .ref (ad G j 0))]) hx hb dX3_settleOldest_75 hl (by decide) rfl (fun ls hl => ?_)
      refine lv_aload_n hx hb dX3_settleOldest_77 rfl (lv_at hl 4 rfl) ?_
      refine r_gR C0 hW (ms_lt hj 0 (by decide)) (ceX_m hj G 0 _ _) rfl hiX3 (k := 6) (by decide) kf_X3_33 rfl rfl rfl dX3_settleOldest_78 ?_
      refine lv_iload hx hb dX3_settleOldest_81 (lv_at hl 0 rfl) ?_
      refine k_Vi (j := j) (k0 := 7) C0 hW (c_X4_isLying l G w4 hj (by simp only [hw4, up_up, up_s, ez1, hz3, hz5, hz6, hz8, hz9]; exact hM1) z9 rz9) km_X3_114 ki_X4_isLying ke_X4_isLying kn_X4 kc_X4_isLying rfl hdV_X4_isLying ⟨by decide, by decide⟩ (ms_lt hj 7 (by decide)) (ceX_m hj G 7 _ _) rfl rfl hl.1 rfl (Nat.le_of_ble_eq_true rfl) dX3_settleOldest_83 (fun z10 w10 H1 locs1 rz10 hp10 hW => ?_)
      obtain ⟨hp10, hq10⟩ := hp10
      subst hq10
      have rz10a := rz10.1
      have rz10b := rz10.2
      rcases hp10 with ⟨e10, hp10⟩ | ⟨e10, hp10⟩
      · subst e10
        obtain ⟨hp101, hp102, hp103⟩ := id hp10
        refine r_if_eq (tgt := 103) hx hb ⟨by omega, by omega⟩ dX3_settleOldest_86 (by decide) (fun q => absurd q (by decide)) (fun _ => ?_)
        refine lv_aload_n hx hb dX3_settleOldest_89 rfl (lv_at hl 4 rfl) ?_
        refine r_gR C0 hW (ms_lt hj 0 (by decide)) (ceX_m hj G 0 _ _) rfl hiX3 (k := 6) (by decide) kf_X3_33 rfl rfl rfl dX3_settleOldest_90 ?_
        refine r_gR C0 hW (ms_lt hj 7 (by decide)) (ceX_m hj G 7 _ _) rfl hiX4 (k := 0) (by decide) kf_X3_142 rfl rfl rfl dX3_settleOldest_93 ?_
        refine lv_iload hx hb dX3_settleOldest_96 (lv_at hl 0 rfl) ?_
        refine lv_iload_n hx hb dX3_settleOldest_98 rfl (lv_at hl 1 rfl) ?_
        refine r_ist C0 hW (ms_lt hj 8 (by decide)) (fun A => (ceX_m hj G 8 _ _)) (n := 120) (v := iI z8) (by omega) (by omega) (by decide) dX3_settleOldest_99 (fun H1 locs1 hW => ?_)
        obtain ⟨w11, hw11⟩ : ∃ wq9 : gW, wq9 = up w4 j (sA (w4 j) 8 z9 (iI z8)) := ⟨_, rfl⟩
        rw [← hw11] at hW
        refine lv_goto (tgt := 109) hx hb dX3_settleOldest_100 (by decide) ?_
        refine lv_iload_n hx hb dX3_settleOldest_109 rfl (lv_at hl 1 rfl) ?_
        exact r_iret C0 hW rz8 (⟨by unfold stlZ; rw [if_neg (by omega)]; simp only [ez1, hz3, hz5, hz6, hz8, hz9], by unfold stlM; rw [if_neg (by omega), @if_pos _ (Classical.propDecidable _) (by have q := hp10; simp only [hw11, hw4, up_s, ez1, hz3, hz5, hz6, hz8, hz9] at q; exact q)]; simp only [stl1, hw11, hw4, up_up, up_s, ez1, hz3, hz5, hz6, hz8, hz9]⟩) dX3_settleOldest_110
      · subst e10
        refine r_if_eq (tgt := 103) hx hb ⟨by omega, by omega⟩ dX3_settleOldest_86 (by decide) (fun _ => ?_) (fun q => absurd q (by decide))
        refine lv_aload_n hx hb dX3_settleOldest_103 rfl (lv_at hl 4 rfl) ?_
        refine lv_iload_n hx hb dX3_settleOldest_104 rfl (lv_at hl 2 rfl) ?_
        refine lv_iload_n hx hb dX3_settleOldest_105 rfl (lv_at hl 1 rfl) ?_
        refine k_Vv (j := j) (k0 := 0) C0 hW (c_X3_givePeats l G w4 hj (by simp only [hw4, up_up, up_s, ez1, hz3, hz5, hz6, hz8, hz9]; exact hM1) z5 z8 rz5 rz8) km_X3_145 ki_X3_givePeats ke_X3_givePeats kn_X3 kc_X3_givePeats rfl hdV_X3_givePeats ⟨by decide, by decide⟩ (ms_lt hj 0 (by decide)) (ceX_m hj G 0 _ _) rfl rfl hl.1 rfl (Nat.le_of_ble_eq_true rfl) dX3_settleOldest_106 (fun w12 H1 locs1 hp12 hW => ?_)
        have hw12 : w12 = _ := hp12
        refine lv_iload_n hx hb dX3_settleOldest_109 rfl (lv_at hl 1 rfl) ?_
        exact r_iret C0 hW rz8 (⟨by unfold stlZ; rw [if_neg (by omega)]; simp only [ez1, hz3, hz5, hz6, hz8, hz9], by unfold stlM; rw [if_neg (by omega), @if_neg _ (Classical.propDecidable _) (by have q := hp10; simp only [hw12, hw4, up_s, ez1, hz3, hz5, hz6, hz8, hz9] at q; exact q)]; simp only [stl1, hw12, hw4, up_up, up_s, ez1, hz3, hz5, hz6, hz8, hz9]⟩) dX3_settleOldest_110
    · refine lv_aload_n hx hb dX3_settleOldest_48 rfl (lv_at hl 2 rfl) ?_
      refine lv_iload_n hx hb dX3_settleOldest_49 rfl (lv_at hl 0 rfl) ?_
      refine k_Vv (j := j) (k0 := 0) C0 hW (c_X3_useDayIfLeft l G w4 hj (by simp only [hw4, up_up, up_s, ez1, hz3, hz5, hz6]; exact hM1) z5 rz5) km_X3_133 ki_X3_useDayIfLeft ke_X3_useDayIfLeft kn_X3 kc_X3_useDayIfLeft rfl hdV_X3_useDayIfLeft ⟨by decide, by decide⟩ (ms_lt hj 0 (by decide)) (ceX_m hj G 0 _ _) rfl rfl hl.1 rfl (Nat.le_of_ble_eq_true rfl) dX3_settleOldest_50 (fun w13 H1 locs1 hp13 hW => ?_)
      have hw13 : w13 = _ := hp13
      refine r_bipush hx hb dX3_settleOldest_53 (by decide) ?_
      exact r_iret C0 hW ⟨by omega, by omega⟩ (⟨by unfold stlZ; rw [if_pos (by omega)], by unfold stlM stl1; rw [if_pos (by omega)]; simp only [hw13, hw4, up_up, up_s, ez1, hz3, hz5, hz6]⟩) dX3_settleOldest_55
  · refine r_bipush hx hb dX3_settleOldest_15 (by decide) ?_
    exact r_iret C0 hW ⟨by omega, by omega⟩ (⟨by omega, by omega⟩) dX3_settleOldest_17

/-- X3_closeYear: its end -/
def po_X3_closeYear (w : gW) (j : Nat) : Int → gW → Prop := fun z w1 => z = cntI (pLy (w j)) (gN (w j) 7 6) ∧ w1 = up w j (yrM (w j))
theorem hdV_X3_closeYear : yX3_closeYear.cls = RX3 ∧ yX3_closeYear.cls ≠ "java/lang/invoke/MethodHandle" ∧ yX3_closeYear.cls ≠ "java/lang/invoke/VarHandle" ∧ (parseMethodDescriptor yX3_closeYear.desc).map (fun d => d.parameters.length) = some 0 := by decide +kernel
set_option maxHeartbeats 4000000 in
set_option maxRecDepth 100000 in
theorem c_X3_closeYear (l : Launch) (G : gG) (w : gW) {j : Nat} (hj : ms j) (hwf : wf (w j)) : mI l G yX3_closeYear (wU yX3_closeYear cX3_closeYear 3 (some .int)) (rmL 4 80) [.ref (ad G j 0)] w (po_X3_closeYear w j) := by
  refine mI_of (by decide +kernel) (Nat.le_of_ble_eq_true rfl) (fun p e s m args below meth c ls C0 hW hl => ?_)
  have hl : lv_has ls 3 [(0, .ref (ad G j 0))] := hl
  have hx := C0.hx
  have hb := C0.hb
  obtain ⟨⟨hs1, hs2⟩, ⟨hd1, hd2, hd3⟩, -, -, -, -, ⟨hr1, hr2⟩, ⟨hc1, hc2⟩, hds⟩ := id hwf
  refine lv_aload_n hx hb dX3_closeYear_0 rfl (lv_at hl 0 rfl) ?_
  refine r_gR C0 hW (ms_lt hj 0 (by decide)) (ceX_m hj G 0 _ _) rfl hiX3 (k := 6) (by decide) kf_X3_33 rfl rfl rfl dX3_closeYear_1 ?_
  refine k_Vi (j := j) (k0 := 7) C0 hW (c_X4_loseAll l G w hj hwf) km_X3_154 ki_X4_loseAll ke_X4_loseAll kn_X4 kc_X4_loseAll rfl hdV_X4_loseAll ⟨by decide, by decide⟩ (ms_lt hj 7 (by decide)) (ceX_m hj G 7 _ _) rfl rfl hl.1 rfl (Nat.le_of_ble_eq_true rfl) dX3_closeYear_4 (fun z1 w1 H1 locs1 rz1 hp1 hW => ?_)
  obtain ⟨hp1, hw1⟩ := hp1
  have rz1a := rz1.1
  have rz1b := rz1.2
  refine lv_istore_n (lv' := [(1, .int (iI z1)), (0, .ref (ad G j 0))]) hx hb dX3_closeYear_7 rfl hl (by decide) rfl (fun ls hl => ?_)
  refine lv_aload_n hx hb dX3_closeYear_8 rfl (lv_at hl 1 rfl) ?_
  refine r_gR C0 hW (ms_lt hj 0 (by decide)) (ceX_m hj G 0 _ _) rfl hiX3 (k := 7) (by decide) kf_X3_40 rfl rfl rfl dX3_closeYear_9 ?_
  refine lv_aload_n hx hb dX3_closeYear_12 rfl (lv_at hl 1 rfl) ?_
  refine r_gR C0 hW (ms_lt hj 0 (by decide)) (ceX_m hj G 0 _ _) rfl hiX3 (k := 7) (by decide) kf_X3_40 rfl rfl rfl dX3_closeYear_13 ?_
  refine r_gI C0 hW (ms_lt hj 14 (by decide)) (ceX_m hj G 14 _ _) rfl hiX1 (k := 5) (by decide) kf_X3_157 rfl rfl rfl dX3_closeYear_16 (fun z2 (hz2 : z2 = gN (w1 j) 14 5) rz2 => ?_)
  have rz2a := rz2.1
  have rz2b := rz2.2
  try simp (decide := true) only [hw1, up_s, gA_sF, gN_sF, gA_sA, gN_sA, gA_sS, gN_sS, if_true, if_false, true_and, and_true, false_and, and_false] at hz2
  refine r_pI C0 hW (ms_lt hj 14 (by decide)) (ceX_m hj G 14 _ _) rfl hiX1 tyX1 tyX1_ok nmX1 (k := 4) (v := iI z2) (by decide) kf_X3_127 rfl rfl rfl (tyX1_ok 4 (by decide)) rfl rfl (by simp) (ceX_m hj G 14 _ _) dX3_closeYear_19 (fun H1 locs1 hW => ?_)
  obtain ⟨w3, hw3⟩ : ∃ wq9 : gW, wq9 = up w1 j (sS (w1 j) 14 4 (iI z2)) := ⟨_, rfl⟩
  rw [← hw3] at hW
  refine lv_aload_n hx hb dX3_closeYear_22 rfl (lv_at hl 1 rfl) ?_
  refine r_gR C0 hW (ms_lt hj 0 (by decide)) (ceX_m hj G 0 _ _) rfl hiX3 (k := 1) (by decide) kf_X3_15 rfl rfl rfl dX3_closeYear_23 ?_
  refine lv_aload_n hx hb dX3_closeYear_26 rfl (lv_at hl 1 rfl) ?_
  refine r_gR C0 hW (ms_lt hj 0 (by decide)) (ceX_m hj G 0 _ _) rfl hiX3 (k := 2) (by decide) kf_X3_18 rfl rfl rfl dX3_closeYear_27 ?_
  refine k_Nv (own := "") C0 hW (As := [.ref (ad G j 2), .ref (ad G j 3)]) (c_X5_copyNumbers l G w3 (n := 20) (ms_lt hj 2 (by decide)) (ms_lt hj 3 (by decide)) (by decide) (fun A => (ceX_m hj G 2 _ _)) (fun A => (ceX_m hj G 3 _ _))) C0.nst.1 ks_X5_copyNumbers kn_X5 kc_X5_copyNumbers hdS_X5_copyNumbers ⟨by decide, by decide⟩ rfl hl.1 rfl (Nat.le_of_ble_eq_true rfl) dX3_closeYear_30 (fun w4 H1 locs1 hp4 hW => ?_)
  have hw4 : w4 = _ := hp4
  refine r_iconst hx hb dX3_closeYear_33 ?_
  refine lv_istore_n (lv' := [(2, .int (iI 0)), (1, .int (iI z1)), (0, .ref (ad G j 0))]) hx hb dX3_closeYear_34 rfl hl (by decide) rfl (fun ls hl => ?_)
  have hL35 : ∀ (n : Nat) (x2 : Int) (wv : gW) (hwv : wv = up w4 j (sF (w4 j) 5 (zeF (w4 j) 5 x2))) (H0 : Heap) (locs0 : List Loc) (ls : Array Slot) (hm : 10 - x2 < (n : Int)) (i35_0 : 0 ≤ x2) (i35_1 : x2 ≤ 10) (hW : wo G wv s H0 locs0) (hl : lv_has ls 3 [(2, .int (iI x2)), (1, .int (iI z1)), (0, .ref (ad G j 0))]), W p l e (rmL 4 80) s m args below meth c H0 locs0 0 0 (QI G (po_X3_closeYear w j) below args s) (F0 m 35 ls []) := by
    intro n
    induction n with
    | zero =>
      intro x2 wv hwv H0 locs0 ls hm i35_0 i35_1 hW hl
      exact absurd hm (by omega)
    | succ n ih35 =>
      intro x2 wv hwv H0 locs0 ls hm i35_0 i35_1 hW hl
      refine lv_iload_n hx hb dX3_closeYear_35 rfl (lv_at hl 0 rfl) ?_
      refine r_bipush hx hb dX3_closeYear_36 (by decide) ?_
      refine r_icmp_ge (tgt := 54) hx hb ⟨by omega, by omega⟩ ⟨by omega, by omega⟩ dX3_closeYear_38 (by decide) (fun c5 => ?_) (fun c5 => ?_)
      · have e10 : x2 = 10 := by omega
        rw [e10] at hwv
        refine lv_aload_n hx hb dX3_closeYear_54 rfl (lv_at hl 2 rfl) ?_
        refine r_iconst hx hb dX3_closeYear_55 ?_
        refine r_pI C0 hW (ms_lt hj 0 (by decide)) (ceX_m hj G 0 _ _) rfl hiX3 tyX3 tyX3_ok nmX3 (k := 11) (v := iI 0) (by decide) kf_X3_65 rfl rfl rfl (tyX3_ok 11 (by decide)) rfl rfl (by simp) (ceX_m hj G 0 _ _) dX3_closeYear_56 (fun H1 locs1 hW => ?_)
        obtain ⟨w6, hw6⟩ : ∃ wq9 : gW, wq9 = up wv j (sS (wv j) 0 11 (iI 0)) := ⟨_, rfl⟩
        rw [← hw6] at hW
        refine lv_aload_n hx hb dX3_closeYear_59 rfl (lv_at hl 2 rfl) ?_
        refine lv_dup hx hb dX3_closeYear_60 rfl ?_
        refine r_gI C0 hW (ms_lt hj 0 (by decide)) (ceX_m hj G 0 _ _) rfl hiX3 (k := 12) (by decide) kf_X3_68 rfl rfl rfl dX3_closeYear_61 (fun z7 (hz7 : z7 = gN (w6 j) 0 12) rz7 => ?_)
        have rz7a := rz7.1
        have rz7b := rz7.2
        try simp (decide := true) only [hw6, hwv, hw4, hw3, hw1, up_s, gA_sF, gN_sF, gA_sA, gN_sA, gA_sS, gN_sS, if_true, if_false, true_and, and_true, false_and, and_false] at hz7
        refine r_iconst hx hb dX3_closeYear_64 ?_
        refine r_iadd hx hb dX3_closeYear_65 ?_
        refine r_pI C0 hW (ms_lt hj 0 (by decide)) (ceX_m hj G 0 _ _) rfl hiX3 tyX3 tyX3_ok nmX3 (k := 12) (v := iI (z7 + 1)) (by decide) kf_X3_68 rfl rfl rfl (tyX3_ok 12 (by decide)) rfl rfl (by simp) (ceX_m hj G 0 _ _) dX3_closeYear_66 (fun H1 locs1 hW => ?_)
        obtain ⟨w8, hw8⟩ : ∃ wq9 : gW, wq9 = up w6 j (sS (w6 j) 0 12 (iI (z7 + 1))) := ⟨_, rfl⟩
        rw [← hw8] at hW
        refine lv_iload_n hx hb dX3_closeYear_69 rfl (lv_at hl 1 rfl) ?_
        exact r_iret C0 hW rz1 (⟨by omega, by unfold yrM; simp (decide := true) only [hw8, hw6, hwv, hw4, hw3, hw1, up_up, up_s, gA_sF, gN_sF, gA_sA, gN_sA, gA_sS, gN_sS, if_true, if_false, true_and, and_true, false_and, and_false, hz2, hz7]⟩) dX3_closeYear_70
      · refine lv_aload_n hx hb dX3_closeYear_41 rfl (lv_at hl 2 rfl) ?_
        refine r_gR C0 hW (ms_lt hj 0 (by decide)) (ceX_m hj G 0 _ _) rfl hiX3 (k := 4) (by decide) kf_X3_24 rfl rfl rfl dX3_closeYear_42 ?_
        refine lv_iload_n hx hb dX3_closeYear_45 rfl (lv_at hl 0 rfl) ?_
        refine r_iconst hx hb dX3_closeYear_46 ?_
        refine r_ist C0 hW (ms_lt hj 5 (by decide)) (fun A => (ceX_m hj G 5 _ _)) (n := 10) (v := iI 0) (by omega) (by omega) (by decide) dX3_closeYear_47 (fun H1 locs1 hW => ?_)
        obtain ⟨w9, hw9⟩ : ∃ wq9 : gW, wq9 = up wv j (sA (wv j) 5 x2 (iI 0)) := ⟨_, rfl⟩
        rw [← hw9] at hW
        refine r_iinc (lv' := [(2, .int (iI (x2 + 1))), (1, .int (iI z1)), (0, .ref (ad G j 0))]) hx hb dX3_closeYear_48 hl (k := 0) rfl (by decide) rfl (fun ls hl => ?_)
        refine lv_goto (tgt := 35) hx hb dX3_closeYear_51 (by decide) ?_
        exact ih35 (x2 + 1) _ (by simp only [hw9, hwv, hw4, hw3, hw1, up_up, up_s, sA_sF]; rw [zeF_s _ _ (by omega)]) _ _ ls (by omega) (by omega) (by omega) hW (lv_sub hl [0, 1, 2] rfl)
  exact hL35 11 0 _ (by rw [zeF_0, sF_id, up_id]) _ _ ls (by omega) (by omega) (by omega) hW (lv_sub hl [0, 1, 2] rfl)

/-- X3_copyFrom: its end -/
def po_X3_copyFrom (w : gW) (j : Nat) (j2 : Nat) : gW → Prop := fun w1 => w1 = up w j (w j2)
theorem hdV_X3_copyFrom : yX3_copyFrom.cls = RX3 ∧ yX3_copyFrom.cls ≠ "java/lang/invoke/MethodHandle" ∧ yX3_copyFrom.cls ≠ "java/lang/invoke/VarHandle" ∧ (parseMethodDescriptor yX3_copyFrom.desc).map (fun d => d.parameters.length) = some 1 := by decide +kernel
set_option maxHeartbeats 4000000 in
set_option maxRecDepth 100000 in
theorem c_X3_copyFrom (l : Launch) (G : gG) (w : gW) {j : Nat} {j2 : Nat} (hj : ms j) (hj2 : ms j2) (hne : ¬ j2 = j) (hwf : wf (w j2)) : mV l G yX3_copyFrom (wU yX3_copyFrom cX3_copyFrom 2 none) (rmL 3 60) [.ref (ad G j 0), .ref (ad G j2 0)] w (po_X3_copyFrom w j j2) := by
  refine mV_of (by decide +kernel) (Nat.le_of_ble_eq_true rfl) (fun p e s m args below meth c ls C0 hW hl => ?_)
  have hl : lv_has ls 2 [(0, .ref (ad G j 0)), (1, .ref (ad G j2 0))] := hl
  have hx := C0.hx
  have hb := C0.hb
  have hun : ∀ (w : gW) (M : gM), up w j M j2 = w j2 := fun w M => up_n w M hne
  obtain ⟨-, -, -, hf1, hf2, hf3, -⟩ := id hwf
  refine lv_aload_n hx hb dX3_copyFrom_0 rfl (lv_at hl 1 rfl) ?_
  refine r_gR C0 hW (ms_lt hj2 0 (by decide)) (ceX_m hj2 G 0 _ _) rfl hiX3 (k := 0) (by decide) kf_X3_9 rfl rfl rfl dX3_copyFrom_1 ?_
  refine lv_aload_n hx hb dX3_copyFrom_4 rfl (lv_at hl 0 rfl) ?_
  refine r_gR C0 hW (ms_lt hj 0 (by decide)) (ceX_m hj G 0 _ _) rfl hiX3 (k := 0) (by decide) kf_X3_9 rfl rfl rfl dX3_copyFrom_5 ?_
  refine k_Nv (own := "") C0 hW (As := [.ref (ad G j2 1), .ref (ad G j 1)]) (c_X5_copyNumbers l G w (n := 20) (ms_lt hj2 1 (by decide)) (ms_lt hj 1 (by decide)) (by decide) (fun A => (ceX_m hj2 G 1 _ _)) (fun A => (ceX_m hj G 1 _ _))) C0.nst.1 ks_X5_copyNumbers kn_X5 kc_X5_copyNumbers hdS_X5_copyNumbers ⟨by decide, by decide⟩ rfl hl.1 rfl (Nat.le_of_ble_eq_true rfl) dX3_copyFrom_8 (fun w1 H1 locs1 hp1 hW => ?_)
  have hw1 : w1 = _ := hp1
  refine lv_aload_n hx hb dX3_copyFrom_11 rfl (lv_at hl 1 rfl) ?_
  refine r_gR C0 hW (ms_lt hj2 0 (by decide)) (ceX_m hj2 G 0 _ _) rfl hiX3 (k := 1) (by decide) kf_X3_15 rfl rfl rfl dX3_copyFrom_12 ?_
  refine lv_aload_n hx hb dX3_copyFrom_15 rfl (lv_at hl 0 rfl) ?_
  refine r_gR C0 hW (ms_lt hj 0 (by decide)) (ceX_m hj G 0 _ _) rfl hiX3 (k := 1) (by decide) kf_X3_15 rfl rfl rfl dX3_copyFrom_16 ?_
  refine k_Nv (own := "") C0 hW (As := [.ref (ad G j2 2), .ref (ad G j 2)]) (c_X5_copyNumbers l G w1 (n := 20) (ms_lt hj2 2 (by decide)) (ms_lt hj 2 (by decide)) (by decide) (fun A => (ceX_m hj2 G 2 _ _)) (fun A => (ceX_m hj G 2 _ _))) C0.nst.1 ks_X5_copyNumbers kn_X5 kc_X5_copyNumbers hdS_X5_copyNumbers ⟨by decide, by decide⟩ rfl hl.1 rfl (Nat.le_of_ble_eq_true rfl) dX3_copyFrom_19 (fun w2 H1 locs1 hp2 hW => ?_)
  have hw2 : w2 = _ := hp2
  refine lv_aload_n hx hb dX3_copyFrom_22 rfl (lv_at hl 1 rfl) ?_
  refine r_gR C0 hW (ms_lt hj2 0 (by decide)) (ceX_m hj2 G 0 _ _) rfl hiX3 (k := 2) (by decide) kf_X3_18 rfl rfl rfl dX3_copyFrom_23 ?_
  refine lv_aload_n hx hb dX3_copyFrom_26 rfl (lv_at hl 0 rfl) ?_
  refine r_gR C0 hW (ms_lt hj 0 (by decide)) (ceX_m hj G 0 _ _) rfl hiX3 (k := 2) (by decide) kf_X3_18 rfl rfl rfl dX3_copyFrom_27 ?_
  refine k_Nv (own := "") C0 hW (As := [.ref (ad G j2 3), .ref (ad G j 3)]) (c_X5_copyNumbers l G w2 (n := 20) (ms_lt hj2 3 (by decide)) (ms_lt hj 3 (by decide)) (by decide) (fun A => (ceX_m hj2 G 3 _ _)) (fun A => (ceX_m hj G 3 _ _))) C0.nst.1 ks_X5_copyNumbers kn_X5 kc_X5_copyNumbers hdS_X5_copyNumbers ⟨by decide, by decide⟩ rfl hl.1 rfl (Nat.le_of_ble_eq_true rfl) dX3_copyFrom_30 (fun w3 H1 locs1 hp3 hW => ?_)
  have hw3 : w3 = _ := hp3
  refine lv_aload_n hx hb dX3_copyFrom_33 rfl (lv_at hl 1 rfl) ?_
  refine r_gR C0 hW (ms_lt hj2 0 (by decide)) (ceX_m hj2 G 0 _ _) rfl hiX3 (k := 3) (by decide) kf_X3_21 rfl rfl rfl dX3_copyFrom_34 ?_
  refine lv_aload_n hx hb dX3_copyFrom_37 rfl (lv_at hl 0 rfl) ?_
  refine r_gR C0 hW (ms_lt hj 0 (by decide)) (ceX_m hj G 0 _ _) rfl hiX3 (k := 3) (by decide) kf_X3_21 rfl rfl rfl dX3_copyFrom_38 ?_
  refine k_Nv (own := "") C0 hW (As := [.ref (ad G j2 4), .ref (ad G j 4)]) (c_X5_copyNumbers l G w3 (n := 10) (ms_lt hj2 4 (by decide)) (ms_lt hj 4 (by decide)) (by decide) (fun A => (ceX_m hj2 G 4 _ _)) (fun A => (ceX_m hj G 4 _ _))) C0.nst.1 ks_X5_copyNumbers kn_X5 kc_X5_copyNumbers hdS_X5_copyNumbers ⟨by decide, by decide⟩ rfl hl.1 rfl (Nat.le_of_ble_eq_true rfl) dX3_copyFrom_41 (fun w4 H1 locs1 hp4 hW => ?_)
  have hw4 : w4 = _ := hp4
  refine lv_aload_n hx hb dX3_copyFrom_44 rfl (lv_at hl 1 rfl) ?_
  refine r_gR C0 hW (ms_lt hj2 0 (by decide)) (ceX_m hj2 G 0 _ _) rfl hiX3 (k := 4) (by decide) kf_X3_24 rfl rfl rfl dX3_copyFrom_45 ?_
  refine lv_aload_n hx hb dX3_copyFrom_48 rfl (lv_at hl 0 rfl) ?_
  refine r_gR C0 hW (ms_lt hj 0 (by decide)) (ceX_m hj G 0 _ _) rfl hiX3 (k := 4) (by decide) kf_X3_24 rfl rfl rfl dX3_copyFrom_49 ?_
  refine k_Nv (own := "") C0 hW (As := [.ref (ad G j2 5), .ref (ad G j 5)]) (c_X5_copyNumbers l G w4 (n := 10) (ms_lt hj2 5 (by decide)) (ms_lt hj 5 (by decide)) (by decide) (fun A => (ceX_m hj2 G 5 _ _)) (fun A => (ceX_m hj G 5 _ _))) C0.nst.1 ks_X5_copyNumbers kn_X5 kc_X5_copyNumbers hdS_X5_copyNumbers ⟨by decide, by decide⟩ rfl hl.1 rfl (Nat.le_of_ble_eq_true rfl) dX3_copyFrom_52 (fun w5 H1 locs1 hp5 hW => ?_)
  have hw5 : w5 = _ := hp5
  refine lv_aload_n hx hb dX3_copyFrom_55 rfl (lv_at hl 1 rfl) ?_
  refine r_gR C0 hW (ms_lt hj2 0 (by decide)) (ceX_m hj2 G 0 _ _) rfl hiX3 (k := 5) (by decide) kf_X3_27 rfl rfl rfl dX3_copyFrom_56 ?_
  refine lv_aload_n hx hb dX3_copyFrom_59 rfl (lv_at hl 0 rfl) ?_
  refine r_gR C0 hW (ms_lt hj 0 (by decide)) (ceX_m hj G 0 _ _) rfl hiX3 (k := 5) (by decide) kf_X3_27 rfl rfl rfl dX3_copyFrom_60 ?_
  refine k_Nv (own := "") C0 hW (As := [.ref (ad G j2 6), .ref (ad G j 6)]) (c_X5_copyNumbers l G w5 (n := 10) (ms_lt hj2 6 (by decide)) (ms_lt hj 6 (by decide)) (by decide) (fun A => (ceX_m hj2 G 6 _ _)) (fun A => (ceX_m hj G 6 _ _))) C0.nst.1 ks_X5_copyNumbers kn_X5 kc_X5_copyNumbers hdS_X5_copyNumbers ⟨by decide, by decide⟩ rfl hl.1 rfl (Nat.le_of_ble_eq_true rfl) dX3_copyFrom_63 (fun w6 H1 locs1 hp6 hW => ?_)
  have hw6 : w6 = _ := hp6
  refine lv_aload_n hx hb dX3_copyFrom_66 rfl (lv_at hl 0 rfl) ?_
  refine r_gR C0 hW (ms_lt hj 0 (by decide)) (ceX_m hj G 0 _ _) rfl hiX3 (k := 6) (by decide) kf_X3_33 rfl rfl rfl dX3_copyFrom_67 ?_
  refine lv_aload_n hx hb dX3_copyFrom_70 rfl (lv_at hl 1 rfl) ?_
  refine r_gR C0 hW (ms_lt hj2 0 (by decide)) (ceX_m hj2 G 0 _ _) rfl hiX3 (k := 6) (by decide) kf_X3_33 rfl rfl rfl dX3_copyFrom_71 ?_
  refine k_Vv (j := j) (k0 := 7) C0 hW (c_X4_copyFrom l G w6 hj hj2 (by omega) (by simp only [hw6, hw5, hw4, hw3, hw2, hw1, up_up, up_s, hun]; exact hwf)) km_X3_52 ki_X4_copyFrom ke_X4_copyFrom kn_X4 kc_X4_copyFrom rfl hdV_X4_copyFrom ⟨by decide, by decide⟩ (ms_lt hj 7 (by decide)) (ceX_m hj G 7 _ _) rfl rfl hl.1 rfl (Nat.le_of_ble_eq_true rfl) dX3_copyFrom_74 (fun w7 H1 locs1 hp7 hW => ?_)
  have hw7 : w7 = _ := hp7
  refine lv_aload_n hx hb dX3_copyFrom_77 rfl (lv_at hl 0 rfl) ?_
  refine r_gR C0 hW (ms_lt hj 0 (by decide)) (ceX_m hj G 0 _ _) rfl hiX3 (k := 7) (by decide) kf_X3_40 rfl rfl rfl dX3_copyFrom_78 ?_
  refine lv_aload_n hx hb dX3_copyFrom_81 rfl (lv_at hl 1 rfl) ?_
  refine r_gR C0 hW (ms_lt hj2 0 (by decide)) (ceX_m hj2 G 0 _ _) rfl hiX3 (k := 7) (by decide) kf_X3_40 rfl rfl rfl dX3_copyFrom_82 ?_
  refine k_Vv (j := j) (k0 := 14) C0 hW (c_X1_copyFrom l G w7 hj hj2 (by omega) (by simp only [hw7, hw6, hw5, hw4, hw3, hw2, hw1, up_up, up_s, hun]; exact hwf)) km_X3_56 ki_X1_copyFrom ke_X1_copyFrom kn_X1 kc_X1_copyFrom rfl hdV_X1_copyFrom ⟨by decide, by decide⟩ (ms_lt hj 14 (by decide)) (ceX_m hj G 14 _ _) rfl rfl hl.1 rfl (Nat.le_of_ble_eq_true rfl) dX3_copyFrom_85 (fun w8 H1 locs1 hp8 hW => ?_)
  have hw8 : w8 = _ := hp8
  refine lv_aload_n hx hb dX3_copyFrom_88 rfl (lv_at hl 0 rfl) ?_
  refine lv_aload_n hx hb dX3_copyFrom_89 rfl (lv_at hl 1 rfl) ?_
  refine r_gI C0 hW (ms_lt hj2 0 (by decide)) (ceX_m hj2 G 0 _ _) rfl hiX3 (k := 8) (by decide) kf_X3_44 rfl rfl rfl dX3_copyFrom_90 (fun z9 (hz9 : z9 = gN (w8 j2) 0 8) rz9 => ?_)
  have rz9a := rz9.1
  have rz9b := rz9.2
  try simp (decide := true) only [hw8, hw7, hw6, hw5, hw4, hw3, hw2, hw1, up_s, gA_sF, gN_sF, gA_sA, gN_sA, gA_sS, gN_sS, if_true, if_false, true_and, and_true, false_and, and_false, hun] at hz9
  refine r_pI C0 hW (ms_lt hj 0 (by decide)) (ceX_m hj G 0 _ _) rfl hiX3 tyX3 tyX3_ok nmX3 (k := 8) (v := iI z9) (by decide) kf_X3_44 rfl rfl rfl (tyX3_ok 8 (by decide)) rfl rfl (by simp) (ceX_m hj G 0 _ _) dX3_copyFrom_93 (fun H1 locs1 hW => ?_)
  obtain ⟨w10, hw10⟩ : ∃ wq9 : gW, wq9 = up w8 j (sS (w8 j) 0 8 (iI z9)) := ⟨_, rfl⟩
  rw [← hw10] at hW
  refine lv_aload_n hx hb dX3_copyFrom_96 rfl (lv_at hl 0 rfl) ?_
  refine lv_aload_n hx hb dX3_copyFrom_97 rfl (lv_at hl 1 rfl) ?_
  refine r_gI C0 hW (ms_lt hj2 0 (by decide)) (ceX_m hj2 G 0 _ _) rfl hiX3 (k := 9) (by decide) kf_X3_59 rfl rfl rfl dX3_copyFrom_98 (fun z11 (hz11 : z11 = gN (w10 j2) 0 9) rz11 => ?_)
  have rz11a := rz11.1
  have rz11b := rz11.2
  try simp (decide := true) only [hw10, hw8, hw7, hw6, hw5, hw4, hw3, hw2, hw1, up_s, gA_sF, gN_sF, gA_sA, gN_sA, gA_sS, gN_sS, if_true, if_false, true_and, and_true, false_and, and_false, hun] at hz11
  refine r_pI C0 hW (ms_lt hj 0 (by decide)) (ceX_m hj G 0 _ _) rfl hiX3 tyX3 tyX3_ok nmX3 (k := 9) (v := iI z11) (by decide) kf_X3_59 rfl rfl rfl (tyX3_ok 9 (by decide)) rfl rfl (by simp) (ceX_m hj G 0 _ _) dX3_copyFrom_101 (fun H1 locs1 hW => ?_)
  obtain ⟨w12, hw12⟩ : ∃ wq9 : gW, wq9 = up w10 j (sS (w10 j) 0 9 (iI z11)) := ⟨_, rfl⟩
  rw [← hw12] at hW
  refine lv_aload_n hx hb dX3_copyFrom_104 rfl (lv_at hl 0 rfl) ?_
  refine lv_aload_n hx hb dX3_copyFrom_105 rfl (lv_at hl 1 rfl) ?_
  refine r_gI C0 hW (ms_lt hj2 0 (by decide)) (ceX_m hj2 G 0 _ _) rfl hiX3 (k := 10) (by decide) kf_X3_62 rfl rfl rfl dX3_copyFrom_106 (fun z13 (hz13 : z13 = gN (w12 j2) 0 10) rz13 => ?_)
  have rz13a := rz13.1
  have rz13b := rz13.2
  try simp (decide := true) only [hw12, hw10, hw8, hw7, hw6, hw5, hw4, hw3, hw2, hw1, up_s, gA_sF, gN_sF, gA_sA, gN_sA, gA_sS, gN_sS, if_true, if_false, true_and, and_true, false_and, and_false, hun] at hz13
  refine r_pI C0 hW (ms_lt hj 0 (by decide)) (ceX_m hj G 0 _ _) rfl hiX3 tyX3 tyX3_ok nmX3 (k := 10) (v := iI z13) (by decide) kf_X3_62 rfl rfl rfl (tyX3_ok 10 (by decide)) rfl rfl (by simp) (ceX_m hj G 0 _ _) dX3_copyFrom_109 (fun H1 locs1 hW => ?_)
  obtain ⟨w14, hw14⟩ : ∃ wq9 : gW, wq9 = up w12 j (sS (w12 j) 0 10 (iI z13)) := ⟨_, rfl⟩
  rw [← hw14] at hW
  refine lv_aload_n hx hb dX3_copyFrom_112 rfl (lv_at hl 0 rfl) ?_
  refine lv_aload_n hx hb dX3_copyFrom_113 rfl (lv_at hl 1 rfl) ?_
  refine r_gI C0 hW (ms_lt hj2 0 (by decide)) (ceX_m hj2 G 0 _ _) rfl hiX3 (k := 11) (by decide) kf_X3_65 rfl rfl rfl dX3_copyFrom_114 (fun z15 (hz15 : z15 = gN (w14 j2) 0 11) rz15 => ?_)
  have rz15a := rz15.1
  have rz15b := rz15.2
  try simp (decide := true) only [hw14, hw12, hw10, hw8, hw7, hw6, hw5, hw4, hw3, hw2, hw1, up_s, gA_sF, gN_sF, gA_sA, gN_sA, gA_sS, gN_sS, if_true, if_false, true_and, and_true, false_and, and_false, hun] at hz15
  refine r_pI C0 hW (ms_lt hj 0 (by decide)) (ceX_m hj G 0 _ _) rfl hiX3 tyX3 tyX3_ok nmX3 (k := 11) (v := iI z15) (by decide) kf_X3_65 rfl rfl rfl (tyX3_ok 11 (by decide)) rfl rfl (by simp) (ceX_m hj G 0 _ _) dX3_copyFrom_117 (fun H1 locs1 hW => ?_)
  obtain ⟨w16, hw16⟩ : ∃ wq9 : gW, wq9 = up w14 j (sS (w14 j) 0 11 (iI z15)) := ⟨_, rfl⟩
  rw [← hw16] at hW
  refine lv_aload_n hx hb dX3_copyFrom_120 rfl (lv_at hl 0 rfl) ?_
  refine lv_aload_n hx hb dX3_copyFrom_121 rfl (lv_at hl 1 rfl) ?_
  refine r_gI C0 hW (ms_lt hj2 0 (by decide)) (ceX_m hj2 G 0 _ _) rfl hiX3 (k := 12) (by decide) kf_X3_68 rfl rfl rfl dX3_copyFrom_122 (fun z17 (hz17 : z17 = gN (w16 j2) 0 12) rz17 => ?_)
  have rz17a := rz17.1
  have rz17b := rz17.2
  try simp (decide := true) only [hw16, hw14, hw12, hw10, hw8, hw7, hw6, hw5, hw4, hw3, hw2, hw1, up_s, gA_sF, gN_sF, gA_sA, gN_sA, gA_sS, gN_sS, if_true, if_false, true_and, and_true, false_and, and_false, hun] at hz17
  refine r_pI C0 hW (ms_lt hj 0 (by decide)) (ceX_m hj G 0 _ _) rfl hiX3 tyX3 tyX3_ok nmX3 (k := 12) (v := iI z17) (by decide) kf_X3_68 rfl rfl rfl (tyX3_ok 12 (by decide)) rfl rfl (by simp) (ceX_m hj G 0 _ _) dX3_copyFrom_125 (fun H1 locs1 hW => ?_)
  obtain ⟨w18, hw18⟩ : ∃ wq9 : gW, wq9 = up w16 j (sS (w16 j) 0 12 (iI z17)) := ⟨_, rfl⟩
  rw [← hw18] at hW
  refine lv_aload_n hx hb dX3_copyFrom_128 rfl (lv_at hl 0 rfl) ?_
  refine lv_aload_n hx hb dX3_copyFrom_129 rfl (lv_at hl 1 rfl) ?_
  refine r_gI C0 hW (ms_lt hj2 0 (by decide)) (ceX_m hj2 G 0 _ _) rfl hiX3 (k := 13) (by decide) kf_X3_71 rfl rfl rfl dX3_copyFrom_130 (fun z19 (hz19 : z19 = gN (w18 j2) 0 13) rz19 => ?_)
  have rz19a := rz19.1
  have rz19b := rz19.2
  try simp (decide := true) only [hw18, hw16, hw14, hw12, hw10, hw8, hw7, hw6, hw5, hw4, hw3, hw2, hw1, up_s, gA_sF, gN_sF, gA_sA, gN_sA, gA_sS, gN_sS, if_true, if_false, true_and, and_true, false_and, and_false, hun] at hz19
  refine r_pI C0 hW (ms_lt hj 0 (by decide)) (ceX_m hj G 0 _ _) rfl hiX3 tyX3 tyX3_ok nmX3 (k := 13) (v := iI z19) (by decide) kf_X3_71 rfl rfl rfl (tyX3_ok 13 (by decide)) rfl rfl (by simp) (ceX_m hj G 0 _ _) dX3_copyFrom_133 (fun H1 locs1 hW => ?_)
  obtain ⟨w20, hw20⟩ : ∃ wq9 : gW, wq9 = up w18 j (sS (w18 j) 0 13 (iI z19)) := ⟨_, rfl⟩
  rw [← hw20] at hW
  rw [show w20 = up w j (mosC (w j) (w j2)) from by simp only [hw20, hw18, hw16, hw14, hw12, hw10, hw8, hw7, hw6, hw5, hw4, hw3, hw2, hw1, up_up, up_s, hun, mosC, hz9, hz11, hz13, hz15, hz17, hz19, gN_i]] at hW
  have hW := wo_eqM (w j2) (mosC_eq hj _ _) hW
  exact r_vret C0 hW (rfl) dX3_copyFrom_136
