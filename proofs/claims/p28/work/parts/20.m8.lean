/-- X2_record: its end -/
def po_X2_record (w : gW) (b0 : Nat) (b1 : Nat) (b2 : Nat) (b3 : Nat) : gW → Prop := fun w1 => w1 = up (up w b3 (w 1)) 4 (recM (w 4) b0 b1 b2 b3)
theorem hdV_X2_record : yX2_record.cls = RX2 ∧ yX2_record.cls ≠ "java/lang/invoke/MethodHandle" ∧ yX2_record.cls ≠ "java/lang/invoke/VarHandle" ∧ (parseMethodDescriptor yX2_record.desc).map (fun d => d.parameters.length) = some 1 := by decide +kernel
set_option maxHeartbeats 4000000 in
set_option maxRecDepth 100000 in
theorem c_X2_record (l : Launch) (G : gG) (w : gW) {b0 : Nat} {b1 : Nat} {b2 : Nat} {b3 : Nat} (hp4 : p4 b0 b1 b2 b3) (hh : hst w b0 b1 b2 b3) (hwf : wf (w 1)) (hs4 : 0 ≤ gN (w 4) 0 4 ∧ gN (w 4) 0 4 ≤ 4) : mV l G yX2_record (wU yX2_record cX2_record 3 none) (rmL 4 81) [.ref (ad G 4 0), .ref (ad G 1 0)] w (po_X2_record w b0 b1 b2 b3) := by
  refine mV_of (by decide +kernel) (Nat.le_of_ble_eq_true rfl) (fun p e s m args below meth c ls C0 hW hl => ?_)
  have hl : lv_has ls 3 [(0, .ref (ad G 4 0)), (1, .ref (ad G 1 0))] := hl
  have hx := C0.hx
  have hb := C0.hb
  obtain ⟨q0, q1, q2, q3, n1, n2, n3, n4, n5, n6⟩ := id hp4
  obtain ⟨hh0, hh1, hh2, hh3⟩ := id hh
  have hm0 := ms_b q0
  have hm3 := ms_b q3
  have hu3 : ∀ (w : gW) (M : gM), up w b3 M 4 = w 4 := fun w M => up_n w M (by omega)
  have hu1 : ∀ (w : gW) (M : gM), up w 4 M 1 = w 1 := fun w M => up_n w M (by decide)
  have hu0 : ∀ (w : gW) (M : gM), up w 4 M b0 = w b0 := fun w M => up_n w M (by omega)
  have hu4 : ∀ (w : gW) (M : gM), up w 1 M 4 = w 4 := fun w M => up_n w M (by decide)
  refine lv_aload_n hx hb dX2_record_0 rfl (lv_at hl 0 rfl) ?_
  refine r_gR C0 hW (show 4 < 11 ∧ 0 < bs 4 from ⟨by decide, by decide⟩) rfl rfl hiX2 (k := 3) (by decide) kf_X2_24 rfl rfl rfl dX2_record_1 ?_
  rw [hb_of hh3]
  refine lv_astore_n (lv' := [(2, .ref (ad G b3 0)), (0, .ref (ad G 4 0)), (1, .ref (ad G 1 0))]) hx hb dX2_record_4 rfl hl (by decide) rfl (fun ls hl => ?_)
  refine lv_aload_n hx hb dX2_record_5 rfl (lv_at hl 1 rfl) ?_
  refine lv_aload_n hx hb dX2_record_6 rfl (lv_at hl 1 rfl) ?_
  refine r_gR C0 hW (show 4 < 11 ∧ 0 < bs 4 from ⟨by decide, by decide⟩) rfl rfl hiX2 (k := 2) (by decide) kf_X2_21 rfl rfl rfl dX2_record_7 ?_
  rw [hb_of hh2]
  refine r_pH C0 hW (k := 3) (b := b2) (by decide) (by omega) kf_X2_24 rfl dX2_record_10 (fun H1 locs1 hW => ?_)
  obtain ⟨w1, hw1⟩ : ∃ wq9 : gW, wq9 = up w 4 (sS (w 4) 0 3 (iI (b2 : Int))) := ⟨_, rfl⟩
  rw [← hw1] at hW
  obtain ⟨hh0, hh1, hh2, hh3⟩ : hst w1 b0 b1 b2 b2 := by
    refine ⟨?_, ?_, ?_, ?_⟩ <;> (rw [hw1, up_s, gN_sS]; first | (rw [if_pos (by decide)]; exact iI_nat (by omega)) | (rw [if_neg (by decide)]; assumption))
  refine lv_aload_n hx hb dX2_record_13 rfl (lv_at hl 1 rfl) ?_
  refine lv_aload_n hx hb dX2_record_14 rfl (lv_at hl 1 rfl) ?_
  refine r_gR C0 hW (show 4 < 11 ∧ 0 < bs 4 from ⟨by decide, by decide⟩) rfl rfl hiX2 (k := 1) (by decide) kf_X2_18 rfl rfl rfl dX2_record_15 ?_
  rw [hb_of hh1]
  refine r_pH C0 hW (k := 2) (b := b1) (by decide) (by omega) kf_X2_21 rfl dX2_record_18 (fun H1 locs1 hW => ?_)
  obtain ⟨w2, hw2⟩ : ∃ wq9 : gW, wq9 = up w1 4 (sS (w1 4) 0 2 (iI (b1 : Int))) := ⟨_, rfl⟩
  rw [← hw2] at hW
  obtain ⟨hh0, hh1, hh2, hh3⟩ : hst w2 b0 b1 b1 b2 := by
    refine ⟨?_, ?_, ?_, ?_⟩ <;> (rw [hw2, up_s, gN_sS]; first | (rw [if_pos (by decide)]; exact iI_nat (by omega)) | (rw [if_neg (by decide)]; assumption))
  refine lv_aload_n hx hb dX2_record_21 rfl (lv_at hl 1 rfl) ?_
  refine lv_aload_n hx hb dX2_record_22 rfl (lv_at hl 1 rfl) ?_
  refine r_gR C0 hW (show 4 < 11 ∧ 0 < bs 4 from ⟨by decide, by decide⟩) rfl rfl hiX2 (k := 0) (by decide) kf_X2_12 rfl rfl rfl dX2_record_23 ?_
  rw [hb_of hh0]
  refine r_pH C0 hW (k := 1) (b := b0) (by decide) (by omega) kf_X2_18 rfl dX2_record_26 (fun H1 locs1 hW => ?_)
  obtain ⟨w3, hw3⟩ : ∃ wq9 : gW, wq9 = up w2 4 (sS (w2 4) 0 1 (iI (b0 : Int))) := ⟨_, rfl⟩
  rw [← hw3] at hW
  obtain ⟨hh0, hh1, hh2, hh3⟩ : hst w3 b0 b0 b1 b2 := by
    refine ⟨?_, ?_, ?_, ?_⟩ <;> (rw [hw3, up_s, gN_sS]; first | (rw [if_pos (by decide)]; exact iI_nat (by omega)) | (rw [if_neg (by decide)]; assumption))
  refine lv_aload_n hx hb dX2_record_29 rfl (lv_at hl 1 rfl) ?_
  refine lv_aload_n hx hb dX2_record_30 rfl (lv_at hl 0 rfl) ?_
  refine r_pH C0 hW (k := 0) (b := b3) (by decide) (by omega) kf_X2_12 rfl dX2_record_31 (fun H1 locs1 hW => ?_)
  obtain ⟨w4, hw4⟩ : ∃ wq9 : gW, wq9 = up w3 4 (sS (w3 4) 0 0 (iI (b3 : Int))) := ⟨_, rfl⟩
  rw [← hw4] at hW
  obtain ⟨hh0, hh1, hh2, hh3⟩ : hst w4 b3 b0 b1 b2 := by
    refine ⟨?_, ?_, ?_, ?_⟩ <;> (rw [hw4, up_s, gN_sS]; first | (rw [if_pos (by decide)]; exact iI_nat (by omega)) | (rw [if_neg (by decide)]; assumption))
  refine lv_aload_n hx hb dX2_record_34 rfl (lv_at hl 1 rfl) ?_
  refine r_gR C0 hW (show 4 < 11 ∧ 0 < bs 4 from ⟨by decide, by decide⟩) rfl rfl hiX2 (k := 0) (by decide) kf_X2_12 rfl rfl rfl dX2_record_35 ?_
  rw [hb_of hh0]
  refine lv_aload_n hx hb dX2_record_38 rfl (lv_at hl 2 rfl) ?_
  refine k_Vv (j := b3) (k0 := 0) C0 hW (c_X3_copyFrom l G w4 hm3 ms_1 (by omega) (by simp only [hw4, hw3, hw2, hw1, up_up, up_s, hu1]; exact hwf)) km_X2_27 ki_X3_copyFrom ke_X3_copyFrom kn_X3 kc_X3_copyFrom rfl hdV_X3_copyFrom ⟨by decide, by decide⟩ (ms_lt hm3 0 (by decide)) (ceX_m hm3 G 0 _ _) rfl rfl hl.1 rfl (Nat.le_of_ble_eq_true rfl) dX2_record_39 (fun w5 H1 locs1 hp5 hW => ?_)
  have hw5 : w5 = _ := hp5
  refine lv_aload_n hx hb dX2_record_42 rfl (lv_at hl 1 rfl) ?_
  refine r_iconst hx hb dX2_record_43 ?_
  refine lv_aload_n hx hb dX2_record_44 rfl (lv_at hl 1 rfl) ?_
  refine r_gI C0 hW (show 4 < 11 ∧ 0 < bs 4 from ⟨by decide, by decide⟩) rfl rfl hiX2 (k := 4) (by decide) kf_X2_31 rfl rfl rfl dX2_record_45 (fun z6 (hz6 : z6 = gN (w5 4) 0 4) rz6 => ?_)
  have rz6a := rz6.1
  have rz6b := rz6.2
  try simp (decide := true) only [hw5, hw4, hw3, hw2, hw1, up_s, gA_sF, gN_sF, gA_sA, gN_sA, gA_sS, gN_sS, if_true, if_false, true_and, and_true, false_and, and_false, hu3, hu1, hu0, hu4] at hz6
  refine r_iconst hx hb dX2_record_48 ?_
  refine r_iadd hx hb dX2_record_49 ?_
  refine r_min C0 ⟨by omega, by omega⟩ ⟨by omega, by omega⟩ km_X2_35 ks_J9_min_7cf53 kn_J9 kc_min rfl hl.1 (by decide) (Nat.le_of_ble_eq_true rfl) dX2_record_50 ?_
  refine r_pI C0 hW (show 4 < 11 ∧ 0 < bs 4 from ⟨by decide, by decide⟩) rfl rfl hiX2 tyX2 tyX2_ok nmX2 (k := 4) (v := iI (min 4 (z6 + 1))) (by decide) kf_X2_31 rfl rfl rfl (tyX2_ok 4 (by decide)) rfl rfl (by simp) rfl dX2_record_53 (fun H1 locs1 hW => ?_)
  obtain ⟨w7, hw7⟩ : ∃ wq9 : gW, wq9 = up w5 4 (sS (w5 4) 0 4 (iI (min 4 (z6 + 1)))) := ⟨_, rfl⟩
  rw [← hw7] at hW
  exact r_vret C0 hW (by unfold po_X2_record recM; simp only [hw7, hw5, hw4, hw3, hw2, hw1, up_up, up_s, hu3, hu1, up_over, hz6]) dX2_record_56

/-- X2_takeBack: its end -/
def po_X2_takeBack (w : gW) (b0 : Nat) (b1 : Nat) (b2 : Nat) (b3 : Nat) : gW → Prop := fun w1 => w1 = up (up w 1 (w b0)) 4 (tbM (w 4) b0 b1 b2 b3)
theorem hdV_X2_takeBack : yX2_takeBack.cls = RX2 ∧ yX2_takeBack.cls ≠ "java/lang/invoke/MethodHandle" ∧ yX2_takeBack.cls ≠ "java/lang/invoke/VarHandle" ∧ (parseMethodDescriptor yX2_takeBack.desc).map (fun d => d.parameters.length) = some 1 := by decide +kernel
set_option maxHeartbeats 4000000 in
set_option maxRecDepth 100000 in
theorem c_X2_takeBack (l : Launch) (G : gG) (w : gW) {b0 : Nat} {b1 : Nat} {b2 : Nat} {b3 : Nat} (hp4 : p4 b0 b1 b2 b3) (hh : hst w b0 b1 b2 b3) (hwf : wf (w b0)) (hs4 : 0 < gN (w 4) 0 4 ∧ gN (w 4) 0 4 ≤ 4) : mV l G yX2_takeBack (wU yX2_takeBack cX2_takeBack 3 none) (rmL 4 81) [.ref (ad G 4 0), .ref (ad G 1 0)] w (po_X2_takeBack w b0 b1 b2 b3) := by
  refine mV_of (by decide +kernel) (Nat.le_of_ble_eq_true rfl) (fun p e s m args below meth c ls C0 hW hl => ?_)
  have hl : lv_has ls 3 [(0, .ref (ad G 4 0)), (1, .ref (ad G 1 0))] := hl
  have hx := C0.hx
  have hb := C0.hb
  obtain ⟨q0, q1, q2, q3, n1, n2, n3, n4, n5, n6⟩ := id hp4
  obtain ⟨hh0, hh1, hh2, hh3⟩ := id hh
  have hm0 := ms_b q0
  have hm3 := ms_b q3
  have hu3 : ∀ (w : gW) (M : gM), up w b3 M 4 = w 4 := fun w M => up_n w M (by omega)
  have hu1 : ∀ (w : gW) (M : gM), up w 4 M 1 = w 1 := fun w M => up_n w M (by decide)
  have hu0 : ∀ (w : gW) (M : gM), up w 4 M b0 = w b0 := fun w M => up_n w M (by omega)
  have hu4 : ∀ (w : gW) (M : gM), up w 1 M 4 = w 4 := fun w M => up_n w M (by decide)
  refine lv_aload_n hx hb dX2_takeBack_0 rfl (lv_at hl 0 rfl) ?_
  refine r_gI C0 hW (show 4 < 11 ∧ 0 < bs 4 from ⟨by decide, by decide⟩) rfl rfl hiX2 (k := 4) (by decide) kf_X2_31 rfl rfl rfl dX2_takeBack_1 (fun z1 (hz1 : z1 = gN (w 4) 0 4) rz1 => ?_)
  have rz1a := rz1.1
  have rz1b := rz1.2
  refine r_if_le (tgt := 56) hx hb rz1 dX2_takeBack_4 (by decide) (fun c2 => ?_) (fun c2 => ?_)
  · exact r_vret C0 hW (by first | omega | (unfold po_X2_takeBack tbM; simp only [id, up_up, up_s, hu4, hu0, up_over, hz1])) dX2_takeBack_56
  · refine lv_aload_n hx hb dX2_takeBack_7 rfl (lv_at hl 0 rfl) ?_
    refine r_gR C0 hW (show 4 < 11 ∧ 0 < bs 4 from ⟨by decide, by decide⟩) rfl rfl hiX2 (k := 0) (by decide) kf_X2_12 rfl rfl rfl dX2_takeBack_8 ?_
    rw [hb_of hh0]
    refine lv_astore_n (lv' := [(2, .ref (ad G b0 0)), (0, .ref (ad G 4 0)), (1, .ref (ad G 1 0))]) hx hb dX2_takeBack_11 rfl hl (by decide) rfl (fun ls hl => ?_)
    refine lv_aload_n hx hb dX2_takeBack_12 rfl (lv_at hl 1 rfl) ?_
    refine lv_aload_n hx hb dX2_takeBack_13 rfl (lv_at hl 1 rfl) ?_
    refine r_gR C0 hW (show 4 < 11 ∧ 0 < bs 4 from ⟨by decide, by decide⟩) rfl rfl hiX2 (k := 1) (by decide) kf_X2_18 rfl rfl rfl dX2_takeBack_14 ?_
    rw [hb_of hh1]
    refine r_pH C0 hW (k := 0) (b := b1) (by decide) (by omega) kf_X2_12 rfl dX2_takeBack_17 (fun H1 locs1 hW => ?_)
    obtain ⟨w3, hw3⟩ : ∃ wq9 : gW, wq9 = up w 4 (sS (w 4) 0 0 (iI (b1 : Int))) := ⟨_, rfl⟩
    rw [← hw3] at hW
    obtain ⟨hh0, hh1, hh2, hh3⟩ : hst w3 b1 b1 b2 b3 := by
      refine ⟨?_, ?_, ?_, ?_⟩ <;> (rw [hw3, up_s, gN_sS]; first | (rw [if_pos (by decide)]; exact iI_nat (by omega)) | (rw [if_neg (by decide)]; assumption))
    refine lv_aload_n hx hb dX2_takeBack_20 rfl (lv_at hl 1 rfl) ?_
    refine lv_aload_n hx hb dX2_takeBack_21 rfl (lv_at hl 1 rfl) ?_
    refine r_gR C0 hW (show 4 < 11 ∧ 0 < bs 4 from ⟨by decide, by decide⟩) rfl rfl hiX2 (k := 2) (by decide) kf_X2_21 rfl rfl rfl dX2_takeBack_22 ?_
    rw [hb_of hh2]
    refine r_pH C0 hW (k := 1) (b := b2) (by decide) (by omega) kf_X2_18 rfl dX2_takeBack_25 (fun H1 locs1 hW => ?_)
    obtain ⟨w4, hw4⟩ : ∃ wq9 : gW, wq9 = up w3 4 (sS (w3 4) 0 1 (iI (b2 : Int))) := ⟨_, rfl⟩
    rw [← hw4] at hW
    obtain ⟨hh0, hh1, hh2, hh3⟩ : hst w4 b1 b2 b2 b3 := by
      refine ⟨?_, ?_, ?_, ?_⟩ <;> (rw [hw4, up_s, gN_sS]; first | (rw [if_pos (by decide)]; exact iI_nat (by omega)) | (rw [if_neg (by decide)]; assumption))
    refine lv_aload_n hx hb dX2_takeBack_28 rfl (lv_at hl 1 rfl) ?_
    refine lv_aload_n hx hb dX2_takeBack_29 rfl (lv_at hl 1 rfl) ?_
    refine r_gR C0 hW (show 4 < 11 ∧ 0 < bs 4 from ⟨by decide, by decide⟩) rfl rfl hiX2 (k := 3) (by decide) kf_X2_24 rfl rfl rfl dX2_takeBack_30 ?_
    rw [hb_of hh3]
    refine r_pH C0 hW (k := 2) (b := b3) (by decide) (by omega) kf_X2_21 rfl dX2_takeBack_33 (fun H1 locs1 hW => ?_)
    obtain ⟨w5, hw5⟩ : ∃ wq9 : gW, wq9 = up w4 4 (sS (w4 4) 0 2 (iI (b3 : Int))) := ⟨_, rfl⟩
    rw [← hw5] at hW
    obtain ⟨hh0, hh1, hh2, hh3⟩ : hst w5 b1 b2 b3 b3 := by
      refine ⟨?_, ?_, ?_, ?_⟩ <;> (rw [hw5, up_s, gN_sS]; first | (rw [if_pos (by decide)]; exact iI_nat (by omega)) | (rw [if_neg (by decide)]; assumption))
    refine lv_aload_n hx hb dX2_takeBack_36 rfl (lv_at hl 1 rfl) ?_
    refine lv_aload_n hx hb dX2_takeBack_37 rfl (lv_at hl 0 rfl) ?_
    refine r_pH C0 hW (k := 3) (b := b0) (by decide) (by omega) kf_X2_24 rfl dX2_takeBack_38 (fun H1 locs1 hW => ?_)
    obtain ⟨w6, hw6⟩ : ∃ wq9 : gW, wq9 = up w5 4 (sS (w5 4) 0 3 (iI (b0 : Int))) := ⟨_, rfl⟩
    rw [← hw6] at hW
    obtain ⟨hh0, hh1, hh2, hh3⟩ : hst w6 b1 b2 b3 b0 := by
      refine ⟨?_, ?_, ?_, ?_⟩ <;> (rw [hw6, up_s, gN_sS]; first | (rw [if_pos (by decide)]; exact iI_nat (by omega)) | (rw [if_neg (by decide)]; assumption))
    refine lv_aload_n hx hb dX2_takeBack_41 rfl (lv_at hl 2 rfl) ?_
    refine lv_aload_n hx hb dX2_takeBack_42 rfl (lv_at hl 0 rfl) ?_
    refine k_Vv (j := 1) (k0 := 0) C0 hW (c_X3_copyFrom l G w6 ms_1 hm0 (by omega) (by simp only [hw6, hw5, hw4, hw3, up_up, up_s, hu0]; exact hwf)) km_X2_27 ki_X3_copyFrom ke_X3_copyFrom kn_X3 kc_X3_copyFrom rfl hdV_X3_copyFrom ⟨by decide, by decide⟩ (show 1 < 11 ∧ 0 < bs 1 from ⟨by decide, by decide⟩) (ceX_m ms_1 G 0 _ _) rfl rfl hl.1 rfl (Nat.le_of_ble_eq_true rfl) dX2_takeBack_43 (fun w7 H1 locs1 hp7 hW => ?_)
    have hw7 : w7 = _ := hp7
    refine lv_aload_n hx hb dX2_takeBack_46 rfl (lv_at hl 1 rfl) ?_
    refine lv_dup hx hb dX2_takeBack_47 rfl ?_
    refine r_gI C0 hW (show 4 < 11 ∧ 0 < bs 4 from ⟨by decide, by decide⟩) rfl rfl hiX2 (k := 4) (by decide) kf_X2_31 rfl rfl rfl dX2_takeBack_48 (fun z8 (hz8 : z8 = gN (w7 4) 0 4) rz8 => ?_)
    have rz8a := rz8.1
    have rz8b := rz8.2
    try simp (decide := true) only [hw7, hw6, hw5, hw4, hw3, up_s, gA_sF, gN_sF, gA_sA, gN_sA, gA_sS, gN_sS, if_true, if_false, true_and, and_true, false_and, and_false, hu3, hu1, hu0, hu4] at hz8
    refine r_iconst hx hb dX2_takeBack_51 ?_
    refine r_isub hx hb dX2_takeBack_52 ?_
    refine r_pI C0 hW (show 4 < 11 ∧ 0 < bs 4 from ⟨by decide, by decide⟩) rfl rfl hiX2 tyX2 tyX2_ok nmX2 (k := 4) (v := iI (z8 - 1)) (by decide) kf_X2_31 rfl rfl rfl (tyX2_ok 4 (by decide)) rfl rfl (by simp) rfl dX2_takeBack_53 (fun H1 locs1 hW => ?_)
    obtain ⟨w9, hw9⟩ : ∃ wq9 : gW, wq9 = up w7 4 (sS (w7 4) 0 4 (iI (z8 - 1))) := ⟨_, rfl⟩
    rw [← hw9] at hW
    exact r_vret C0 hW (by first | omega | (unfold po_X2_takeBack tbM; simp only [hw9, hw7, hw6, hw5, hw4, hw3, up_up, up_s, hu4, hu0, up_over, hz1, hz8])) dX2_takeBack_56
