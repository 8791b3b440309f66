/-- X4_lay: its end -/
def po_X4_lay (w : gW) (j : Nat) (co : Int) (pl : Int) : Int → gW → Prop := fun z w1 => z = gN (w j) 7 6 ∧ w1 = up w j (layM (w j) co pl)
theorem hdV_X4_lay : yX4_lay.cls = RX4 ∧ yX4_lay.cls ≠ "java/lang/invoke/MethodHandle" ∧ yX4_lay.cls ≠ "java/lang/invoke/VarHandle" ∧ (parseMethodDescriptor yX4_lay.desc).map (fun d => d.parameters.length) = some 2 := by decide +kernel
set_option maxHeartbeats 4000000 in
set_option maxRecDepth 100000 in
theorem c_X4_lay (l : Launch) (G : gG) (w : gW) {j : Nat} (hj : ms j) (hwf : wf (w j)) (co : Int) (pl : Int) (rco : inR co) (rpl : inR pl) (hn9 : gN (w j) 7 6 < 120) : mI l G yX4_lay (wU yX4_lay cX4_lay 4 (some .int)) (rmL 1 20) [.ref (ad G j 7), .int (iI co), .int (iI pl)] w (po_X4_lay w j co pl) := by
  refine mI_of (by decide +kernel) (Nat.le_of_ble_eq_true rfl) (fun p e s m args below meth c ls C0 hW hl => ?_)
  have hl : lv_has ls 4 [(0, .ref (ad G j 7)), (1, .int (iI co)), (2, .int (iI pl))] := hl
  have hx := C0.hx
  have hb := C0.hb
  obtain ⟨⟨hs1, hs2⟩, -⟩ := id hwf
  refine lv_aload_n hx hb dX4_lay_0 rfl (lv_at hl 0 rfl) ?_
  refine r_gI C0 hW (ms_lt hj 7 (by decide)) (ceX_m hj G 7 _ _) rfl hiX4 (k := 6) (by decide) kf_X4_39 rfl rfl rfl dX4_lay_1 (fun z1 (hz1 : z1 = gN (w j) 7 6) rz1 => ?_)
  have rz1a := rz1.1
  have rz1b := rz1.2
  refine lv_istore_n (lv' := [(3, .int (iI z1)), (0, .ref (ad G j 7)), (1, .int (iI co)), (2, .int (iI pl))]) hx hb dX4_lay_4 rfl hl (by decide) rfl (fun ls hl => ?_)
  refine lv_aload_n hx hb dX4_lay_5 rfl (lv_at hl 1 rfl) ?_
  refine k_Vi (j := j) (k0 := 7) C0 hW (c_X4_hasNumberLeft l G w hj hwf) km_X4_49 ki_X4_hasNumberLeft ke_X4_hasNumberLeft kn_X4 kc_X4_hasNumberLeft rfl hdV_X4_hasNumberLeft ⟨by decide, by decide⟩ (ms_lt hj 7 (by decide)) (ceX_m hj G 7 _ _) rfl rfl hl.1 rfl (Nat.le_of_ble_eq_true rfl) dX4_lay_6 (fun z2 w2 H1 locs1 rz2 hp2 hW => ?_)
  obtain ⟨hp2, hq2⟩ := hp2
  subst hq2
  have rz2a := rz2.1
  have rz2b := rz2.2
  rcases hp2 with ⟨e2, hp2⟩ | ⟨e2, hp2⟩
  · subst e2
    refine r_if_ne (tgt := 15) hx hb ⟨by omega, by omega⟩ dX4_lay_9 (by decide) (fun _ => ?_) (fun q => absurd q (by decide))
    refine lv_aload_n hx hb dX4_lay_15 rfl (lv_at hl 1 rfl) ?_
    refine r_gR C0 hW (ms_lt hj 7 (by decide)) (ceX_m hj G 7 _ _) rfl hiX4 (k := 0) (by decide) kf_X4_9 rfl rfl rfl dX4_lay_16 ?_
    refine lv_iload_n hx hb dX4_lay_19 rfl (lv_at hl 0 rfl) ?_
    refine lv_iload_n hx hb dX4_lay_20 rfl (lv_at hl 2 rfl) ?_
    refine r_ist C0 hW (ms_lt hj 8 (by decide)) (fun A => (ceX_m hj G 8 _ _)) (n := 120) (v := iI co) (by omega) (by omega) (by decide) dX4_lay_21 (fun H1 locs1 hW => ?_)
    obtain ⟨w3, hw3⟩ : ∃ wq9 : gW, wq9 = up w j (sA (w j) 8 z1 (iI co)) := ⟨_, rfl⟩
    rw [← hw3] at hW
    refine lv_aload_n hx hb dX4_lay_22 rfl (lv_at hl 1 rfl) ?_
    refine r_gR C0 hW (ms_lt hj 7 (by decide)) (ceX_m hj G 7 _ _) rfl hiX4 (k := 1) (by decide) kf_X4_15 rfl rfl rfl dX4_lay_23 ?_
    refine lv_iload_n hx hb dX4_lay_26 rfl (lv_at hl 0 rfl) ?_
    refine lv_iload_n hx hb dX4_lay_27 rfl (lv_at hl 3 rfl) ?_
    refine r_ist C0 hW (ms_lt hj 9 (by decide)) (fun A => (ceX_m hj G 9 _ _)) (n := 120) (v := iI pl) (by omega) (by omega) (by decide) dX4_lay_28 (fun H1 locs1 hW => ?_)
    obtain ⟨w4, hw4⟩ : ∃ wq9 : gW, wq9 = up w3 j (sA (w3 j) 9 z1 (iI pl)) := ⟨_, rfl⟩
    rw [← hw4] at hW
    refine lv_aload_n hx hb dX4_lay_29 rfl (lv_at hl 1 rfl) ?_
    refine r_gR C0 hW (ms_lt hj 7 (by decide)) (ceX_m hj G 7 _ _) rfl hiX4 (k := 2) (by decide) kf_X4_18 rfl rfl rfl dX4_lay_30 ?_
    refine lv_iload_n hx hb dX4_lay_33 rfl (lv_at hl 0 rfl) ?_
    refine r_bipush hx hb dX4_lay_34 (by decide) ?_
    refine r_ist C0 hW (ms_lt hj 10 (by decide)) (fun A => (ceX_m hj G 10 _ _)) (n := 120) (v := iI 50) (by omega) (by omega) (by decide) dX4_lay_36 (fun H1 locs1 hW => ?_)
    obtain ⟨w5, hw5⟩ : ∃ wq9 : gW, wq9 = up w4 j (sA (w4 j) 10 z1 (iI 50)) := ⟨_, rfl⟩
    rw [← hw5] at hW
    refine lv_aload_n hx hb dX4_lay_37 rfl (lv_at hl 1 rfl) ?_
    refine r_gR C0 hW (ms_lt hj 7 (by decide)) (ceX_m hj G 7 _ _) rfl hiX4 (k := 3) (by decide) kf_X4_21 rfl rfl rfl dX4_lay_38 ?_
    refine lv_iload_n hx hb dX4_lay_41 rfl (lv_at hl 0 rfl) ?_
    refine r_iconst hx hb dX4_lay_42 ?_
    refine r_zst C0 hW (ms_lt hj 11 (by decide)) (fun A => (ceX_m hj G 11 _ _)) (n := 120) (v := iI 0) (iI_narz (by first | exact Or.inl rfl | exact Or.inr rfl | omega)) (by omega) (by omega) (by decide) dX4_lay_43 (fun H1 locs1 hW => ?_)
    obtain ⟨w6, hw6⟩ : ∃ wq9 : gW, wq9 = up w5 j (sA (w5 j) 11 z1 (iI 0)) := ⟨_, rfl⟩
    rw [← hw6] at hW
    refine lv_aload_n hx hb dX4_lay_44 rfl (lv_at hl 1 rfl) ?_
    refine r_gR C0 hW (ms_lt hj 7 (by decide)) (ceX_m hj G 7 _ _) rfl hiX4 (k := 4) (by decide) kf_X4_25 rfl rfl rfl dX4_lay_45 ?_
    refine lv_iload_n hx hb dX4_lay_48 rfl (lv_at hl 0 rfl) ?_
    refine r_iconst hx hb dX4_lay_49 ?_
    refine r_zst C0 hW (ms_lt hj 12 (by decide)) (fun A => (ceX_m hj G 12 _ _)) (n := 120) (v := iI 0) (iI_narz (by first | exact Or.inl rfl | exact Or.inr rfl | omega)) (by omega) (by omega) (by decide) dX4_lay_50 (fun H1 locs1 hW => ?_)
    obtain ⟨w7, hw7⟩ : ∃ wq9 : gW, wq9 = up w6 j (sA (w6 j) 12 z1 (iI 0)) := ⟨_, rfl⟩
    rw [← hw7] at hW
    refine lv_aload_n hx hb dX4_lay_51 rfl (lv_at hl 1 rfl) ?_
    refine r_gR C0 hW (ms_lt hj 7 (by decide)) (ceX_m hj G 7 _ _) rfl hiX4 (k := 5) (by decide) kf_X4_28 rfl rfl rfl dX4_lay_52 ?_
    refine lv_iload_n hx hb dX4_lay_55 rfl (lv_at hl 0 rfl) ?_
    refine r_iconst hx hb dX4_lay_56 ?_
    refine r_zst C0 hW (ms_lt hj 13 (by decide)) (fun A => (ceX_m hj G 13 _ _)) (n := 120) (v := iI 1) (iI_narz (by first | exact Or.inl rfl | exact Or.inr rfl | omega)) (by omega) (by omega) (by decide) dX4_lay_57 (fun H1 locs1 hW => ?_)
    obtain ⟨w8, hw8⟩ : ∃ wq9 : gW, wq9 = up w7 j (sA (w7 j) 13 z1 (iI 1)) := ⟨_, rfl⟩
    rw [← hw8] at hW
    refine lv_aload_n hx hb dX4_lay_58 rfl (lv_at hl 1 rfl) ?_
    refine lv_dup hx hb dX4_lay_59 rfl ?_
    refine r_gI C0 hW (ms_lt hj 7 (by decide)) (ceX_m hj G 7 _ _) rfl hiX4 (k := 6) (by decide) kf_X4_39 rfl rfl rfl dX4_lay_60 (fun z9 (hz9 : z9 = gN (w8 j) 7 6) rz9 => ?_)
    have rz9a := rz9.1
    have rz9b := rz9.2
    try simp (decide := true) only [hw8, hw7, hw6, hw5, hw4, hw3, up_s, gA_sF, gN_sF, gA_sA, gN_sA, gA_sS, gN_sS, if_true, if_false, true_and, and_true, false_and, and_false] at hz9
    refine r_iconst hx hb dX4_lay_63 ?_
    refine r_iadd hx hb dX4_lay_64 ?_
    refine r_pI C0 hW (ms_lt hj 7 (by decide)) (ceX_m hj G 7 _ _) rfl hiX4 tyX4 tyX4_ok nmX4 (k := 6) (v := iI (z9 + 1)) (by decide) kf_X4_39 rfl rfl rfl (tyX4_ok 6 (by decide)) rfl rfl (by simp) (ceX_m hj G 7 _ _) dX4_lay_65 (fun H1 locs1 hW => ?_)
    obtain ⟨w10, hw10⟩ : ∃ wq9 : gW, wq9 = up w8 j (sS (w8 j) 7 6 (iI (z9 + 1))) := ⟨_, rfl⟩
    rw [← hw10] at hW
    refine lv_iload_n hx hb dX4_lay_68 rfl (lv_at hl 0 rfl) ?_
    exact r_iret C0 hW rz1 (⟨by omega, by first | omega | (simp only [hw10, hw8, hw7, hw6, hw5, hw4, hw3, up_up, up_s, layM, hz1, hz9])⟩) dX4_lay_69
  · subst e2
    refine r_if_ne (tgt := 15) hx hb ⟨by omega, by omega⟩ dX4_lay_9 (by decide) (fun q => absurd q (by decide)) (fun _ => ?_)
    refine r_bipush hx hb dX4_lay_12 (by decide) ?_
    exact r_iret C0 hW ⟨by omega, by omega⟩ (⟨by omega, by first | omega | (simp only [id, up_up, up_s, layM, hz1])⟩) dX4_lay_14

/-- X1_end: its end -/
def po_X1_end (w : gW) (j : Nat) : Int → gW → Prop := fun z w1 => (z = gN (w j) 14 5) ∧ w = w1
theorem hdV_X1_end : yX1_end.cls = RX1 ∧ yX1_end.cls ≠ "java/lang/invoke/MethodHandle" ∧ yX1_end.cls ≠ "java/lang/invoke/VarHandle" ∧ (parseMethodDescriptor yX1_end.desc).map (fun d => d.parameters.length) = some 0 := by decide +kernel
set_option maxHeartbeats 4000000 in
set_option maxRecDepth 100000 in
theorem c_X1_end (l : Launch) (G : gG) (w : gW) {j : Nat} (hj : ms j) (hwf : wf (w j)) : mI l G yX1_end (wU yX1_end cX1_end 1 (some .int)) (rmL 1 14) [.ref (ad G j 14)] w (po_X1_end w j) := by
  refine mI_of (by decide +kernel) (Nat.le_of_ble_eq_true rfl) (fun p e s m args below meth c ls C0 hW hl => ?_)
  have hl : lv_has ls 1 [(0, .ref (ad G j 14))] := hl
  have hx := C0.hx
  have hb := C0.hb
  obtain ⟨⟨hs1, hs2⟩, ⟨hd1, hd2, hd3⟩, -⟩ := id hwf
  refine lv_aload_n hx hb dX1_end_0 rfl (lv_at hl 0 rfl) ?_
  refine r_gI C0 hW (ms_lt hj 14 (by decide)) (ceX_m hj G 14 _ _) rfl hiX1 (k := 5) (by decide) kf_X1_32 rfl rfl rfl dX1_end_1 (fun z1 (hz1 : z1 = gN (w j) 14 5) rz1 => ?_)
  have rz1a := rz1.1
  have rz1b := rz1.2
  refine r_bipush hx hb dX1_end_4 (by decide) ?_
  refine r_min C0 rz1 ⟨by omega, by omega⟩ km_X1_35 ks_J9_min_7cf53 kn_J9 kc_min rfl hl.1 (by decide) (Nat.le_of_ble_eq_true rfl) dX1_end_6 ?_
  exact r_iret C0 hW ⟨by omega, by omega⟩ (⟨by omega, rfl⟩) dX1_end_9

/-- X1_countOpen: its end -/
def po_X1_countOpen (w : gW) (j : Nat) : Int → gW → Prop := fun z w1 => (z = gN (w j) 14 5 - gN (w j) 14 4) ∧ w = w1
theorem hdV_X1_countOpen : yX1_countOpen.cls = RX1 ∧ yX1_countOpen.cls ≠ "java/lang/invoke/MethodHandle" ∧ yX1_countOpen.cls ≠ "java/lang/invoke/VarHandle" ∧ (parseMethodDescriptor yX1_countOpen.desc).map (fun d => d.parameters.length) = some 0 := by decide +kernel
set_option maxHeartbeats 4000000 in
set_option maxRecDepth 100000 in
theorem c_X1_countOpen (l : Launch) (G : gG) (w : gW) {j : Nat} (hj : ms j) (hwf : wf (w j)) : mI l G yX1_countOpen (wU yX1_countOpen cX1_countOpen 1 (some .int)) (rmL 2 34) [.ref (ad G j 14)] w (po_X1_countOpen w j) := by
  refine mI_of (by decide +kernel) (Nat.le_of_ble_eq_true rfl) (fun p e s m args below meth c ls C0 hW hl => ?_)
  have hl : lv_has ls 1 [(0, .ref (ad G j 14))] := hl
  have hx := C0.hx
  have hb := C0.hb
  obtain ⟨⟨hs1, hs2⟩, ⟨hd1, hd2, hd3⟩, -⟩ := id hwf
  refine lv_aload_n hx hb dX1_countOpen_0 rfl (lv_at hl 0 rfl) ?_
  refine k_Vi (j := j) (k0 := 14) C0 hW (c_X1_end l G w hj hwf) km_X1_41 ki_X1_end ke_X1_end kn_X1 kc_X1_end rfl hdV_X1_end ⟨by decide, by decide⟩ (ms_lt hj 14 (by decide)) (ceX_m hj G 14 _ _) rfl rfl hl.1 rfl (Nat.le_of_ble_eq_true rfl) dX1_countOpen_1 (fun z1 w1 H1 locs1 rz1 hp1 hW => ?_)
  obtain ⟨hp1, hq1⟩ := hp1
  subst hq1
  have rz1a := rz1.1
  have rz1b := rz1.2
  refine lv_aload_n hx hb dX1_countOpen_4 rfl (lv_at hl 0 rfl) ?_
  refine r_gI C0 hW (ms_lt hj 14 (by decide)) (ceX_m hj G 14 _ _) rfl hiX1 (k := 4) (by decide) kf_X1_28 rfl rfl rfl dX1_countOpen_5 (fun z2 (hz2 : z2 = gN (w j) 14 4) rz2 => ?_)
  have rz2a := rz2.1
  have rz2b := rz2.2
  refine r_isub hx hb dX1_countOpen_8 ?_
  exact r_iret C0 hW ⟨by omega, by omega⟩ (⟨by omega, rfl⟩) dX1_countOpen_9

/-- X1_openOfRank: its end -/
def po_X1_openOfRank (w : gW) (j : Nat) (k : Int) : Int → gW → Prop := fun z w1 => ((z = -5 ∧ ¬ (0 ≤ k ∧ k < gN (w j) 14 5 - gN (w j) 14 4)) ∨ (z = gN (w j) 14 4 + k ∧ 0 ≤ k ∧ k < gN (w j) 14 5 - gN (w j) 14 4)) ∧ w = w1
theorem hdV_X1_openOfRank : yX1_openOfRank.cls = RX1 ∧ yX1_openOfRank.cls ≠ "java/lang/invoke/MethodHandle" ∧ yX1_openOfRank.cls ≠ "java/lang/invoke/VarHandle" ∧ (parseMethodDescriptor yX1_openOfRank.desc).map (fun d => d.parameters.length) = some 1 := by decide +kernel
set_option maxHeartbeats 4000000 in
set_option maxRecDepth 100000 in
theorem c_X1_openOfRank (l : Launch) (G : gG) (w : gW) {j : Nat} (hj : ms j) (hwf : wf (w j)) (k : Int) (rk : inR k) : mI l G yX1_openOfRank (wU yX1_openOfRank cX1_openOfRank 2 (some .int)) (rmL 3 54) [.ref (ad G j 14), .int (iI k)] w (po_X1_openOfRank w j k) := by
  refine mI_of (by decide +kernel) (Nat.le_of_ble_eq_true rfl) (fun p e s m args below meth c ls C0 hW hl => ?_)
  have hl : lv_has ls 2 [(0, .ref (ad G j 14)), (1, .int (iI k))] := hl
  have hx := C0.hx
  have hb := C0.hb
  obtain ⟨⟨hs1, hs2⟩, ⟨hd1, hd2, hd3⟩, -⟩ := id hwf
  refine lv_iload_n hx hb dX1_openOfRank_0 rfl (lv_at hl 1 rfl) ?_
  refine r_iconst hx hb dX1_openOfRank_1 ?_
  refine lv_aload_n hx hb dX1_openOfRank_2 rfl (lv_at hl 0 rfl) ?_
  refine k_Vi (j := j) (k0 := 14) C0 hW (c_X1_countOpen l G w hj hwf) km_X1_45 ki_X1_countOpen ke_X1_countOpen kn_X1 kc_X1_countOpen rfl hdV_X1_countOpen ⟨by decide, by decide⟩ (ms_lt hj 14 (by decide)) (ceX_m hj G 14 _ _) rfl rfl hl.1 rfl (Nat.le_of_ble_eq_true rfl) dX1_openOfRank_3 (fun z1 w1 H1 locs1 rz1 hp1 hW => ?_)
  obtain ⟨hp1, hq1⟩ := hp1
  subst hq1
  have rz1a := rz1.1
  have rz1b := rz1.2
  refine r_iconst hx hb dX1_openOfRank_6 ?_
  refine r_isub hx hb dX1_openOfRank_7 ?_
  refine k_Ni (own := "") C0 hW (As := [.int (iI k), .int (iI 0), .int (iI (z1 - 1))]) (c_X5_isWithin l G w k 0 (z1 - 1) rk ⟨by omega, by omega⟩ ⟨by omega, by omega⟩) C0.nst.2.2.2.2.2.2.2.2.2 ks_X5_isWithin kn_X5 kc_X5_isWithin hdS_X5_isWithin ⟨by decide, by decide⟩ rfl hl.1 rfl (Nat.le_of_ble_eq_true rfl) dX1_openOfRank_8 (fun z2 w2 H1 locs1 rz2 hp2 hW => ?_)
  obtain ⟨hp2, hq2⟩ := hp2
  subst hq2
  have rz2a := rz2.1
  have rz2b := rz2.2
  rcases hp2 with ⟨e2, hp2⟩ | ⟨e2, hp2⟩
  · subst e2
    refine r_if_eq (tgt := 23) hx hb ⟨by omega, by omega⟩ dX1_openOfRank_11 (by decide) (fun q => absurd q (by decide)) (fun _ => ?_)
    refine lv_aload_n hx hb dX1_openOfRank_14 rfl (lv_at hl 0 rfl) ?_
    refine r_gI C0 hW (ms_lt hj 14 (by decide)) (ceX_m hj G 14 _ _) rfl hiX1 (k := 4) (by decide) kf_X1_28 rfl rfl rfl dX1_openOfRank_15 (fun z3 (hz3 : z3 = gN (w j) 14 4) rz3 => ?_)
    have rz3a := rz3.1
    have rz3b := rz3.2
    refine lv_iload_n hx hb dX1_openOfRank_18 rfl (lv_at hl 1 rfl) ?_
    refine r_iadd hx hb dX1_openOfRank_19 ?_
    refine lv_goto (tgt := 25) hx hb dX1_openOfRank_20 (by decide) ?_
    exact r_iret C0 hW ⟨by omega, by omega⟩ (⟨by omega, rfl⟩) dX1_openOfRank_25
  · subst e2
    refine r_if_eq (tgt := 23) hx hb ⟨by omega, by omega⟩ dX1_openOfRank_11 (by decide) (fun _ => ?_) (fun q => absurd q (by decide))
    refine r_bipush hx hb dX1_openOfRank_23 (by decide) ?_
    exact r_iret C0 hW ⟨by omega, by omega⟩ (⟨by omega, rfl⟩) dX1_openOfRank_25

/-- X1_countOpenWith: its end -/
def po_X1_countOpenWith (w : gW) (j : Nat) (co : Int) : Int → gW → Prop := fun z w1 => (z = cntI (pDi (w j) co) (gN (w j) 14 5) - cntI (pDi (w j) co) (gN (w j) 14 4)) ∧ w = w1
theorem hdV_X1_countOpenWith : yX1_countOpenWith.cls = RX1 ∧ yX1_countOpenWith.cls ≠ "java/lang/invoke/MethodHandle" ∧ yX1_countOpenWith.cls ≠ "java/lang/invoke/VarHandle" ∧ (parseMethodDescriptor yX1_countOpenWith.desc).map (fun d => d.parameters.length) = some 1 := by decide +kernel
set_option maxHeartbeats 4000000 in
set_option maxRecDepth 100000 in
theorem c_X1_countOpenWith (l : Launch) (G : gG) (w : gW) {j : Nat} (hj : ms j) (hwf : wf (w j)) (co : Int) (rco : inR co) : mI l G yX1_countOpenWith (wU yX1_countOpenWith cX1_countOpenWith 5 (some .int)) (rmL 2 34) [.ref (ad G j 14), .int (iI co)] w (po_X1_countOpenWith w j co) := by
  refine mI_of (by decide +kernel) (Nat.le_of_ble_eq_true rfl) (fun p e s m args below meth c ls C0 hW hl => ?_)
  have hl : lv_has ls 5 [(0, .ref (ad G j 14)), (1, .int (iI co))] := hl
  have hx := C0.hx
  have hb := C0.hb
  obtain ⟨⟨hs1, hs2⟩, ⟨hd1, hd2, hd3⟩, -⟩ := id hwf
  refine r_iconst hx hb dX1_countOpenWith_0 ?_
  refine lv_istore_n (lv' := [(2, .int (iI 0)), (0, .ref (ad G j 14)), (1, .int (iI co))]) hx hb dX1_countOpenWith_1 rfl hl (by decide) rfl (fun ls hl => ?_)
  refine lv_aload_n hx hb dX1_countOpenWith_2 rfl (lv_at hl 1 rfl) ?_
  refine r_gI C0 hW (ms_lt hj 14 (by decide)) (ceX_m hj G 14 _ _) rfl hiX1 (k := 4) (by decide) kf_X1_28 rfl rfl rfl dX1_countOpenWith_3 (fun z1 (hz1 : z1 = gN (w j) 14 4) rz1 => ?_)
  have rz1a := rz1.1
  have rz1b := rz1.2
  refine lv_istore_n (lv' := [(3, .int (iI z1)), (2, .int (iI 0)), (0, .ref (ad G j 14)), (1, .int (iI co))]) hx hb dX1_countOpenWith_6 rfl hl (by decide) rfl (fun ls hl => ?_)
  refine lv_aload_n hx hb dX1_countOpenWith_7 rfl (lv_at hl 2 rfl) ?_
  refine k_Vi (j := j) (k0 := 14) C0 hW (c_X1_end l G w hj hwf) km_X1_41 ki_X1_end ke_X1_end kn_X1 kc_X1_end rfl hdV_X1_end ⟨by decide, by decide⟩ (ms_lt hj 14 (by decide)) (ceX_m hj G 14 _ _) rfl rfl hl.1 rfl (Nat.le_of_ble_eq_true rfl) dX1_countOpenWith_8 (fun z2 w2 H1 locs1 rz2 hp2 hW => ?_)
  obtain ⟨hp2, hq2⟩ := hp2
  subst hq2
  have rz2a := rz2.1
  have rz2b := rz2.2
  refine lv_istore (lv' := [(4, .int (iI z2)), (3, .int (iI z1)), (2, .int (iI 0)), (0, .ref (ad G j 14)), (1, .int (iI co))]) hx hb dX1_countOpenWith_11 hl (by decide) rfl (fun ls hl => ?_)
  have hL13 : ∀ (n : Nat) (x2 : Int) (x3 : Int) (H0 : Heap) (locs0 : List Loc) (ls : Array Slot) (hm : gN (w j) 14 5 - x3 < (n : Int)) (i13_0 : 0 ≤ x3) (i13_1 : x3 ≤ gN (w j) 14 5) (i13_2 : x2 = cntI (pDi (w j) co) x3 - cntI (pDi (w j) co) (gN (w j) 14 4)) (hW : wo G w s H0 locs0) (hl : lv_has ls 5 [(4, .int (iI z2)), (3, .int (iI x3)), (2, .int (iI x2)), (0, .ref (ad G j 14)), (1, .int (iI co))]), W p l e (rmL 2 34) s m args below meth c H0 locs0 0 0 (QI G (po_X1_countOpenWith w j co) below args s) (F0 m 13 ls []) := by
    intro n
    induction n with
    | zero =>
      intro x2 x3 H0 locs0 ls hm i13_0 i13_1 i13_2 hW hl
      exact absurd hm (by omega)
    | succ n ih13 =>
      intro x2 x3 H0 locs0 ls hm i13_0 i13_1 i13_2 hW hl
      have hcl := cntI_le (pDi (w j) co) i13_0
      have hcl2 := cntI_le (pDi (w j) co) hd1
      refine lv_iload_n hx hb dX1_countOpenWith_13 rfl (lv_at hl 1 rfl) ?_
      refine lv_iload hx hb dX1_countOpenWith_14 (lv_at hl 0 rfl) ?_
      refine r_icmp_ge (tgt := 56) hx hb ⟨by omega, by omega⟩ rz2 dX1_countOpenWith_16 (by decide) (fun c3 => ?_) (fun c3 => ?_)
      · refine lv_iload_n hx hb dX1_countOpenWith_56 rfl (lv_at hl 2 rfl) ?_
        exact r_iret C0 hW ⟨by omega, by omega⟩ (⟨by rw [show gN (w j) 14 5 = x3 from by omega]; omega, rfl⟩) dX1_countOpenWith_57
      · refine lv_iload_n hx hb dX1_countOpenWith_19 rfl (lv_at hl 2 rfl) ?_
        refine lv_aload_n hx hb dX1_countOpenWith_20 rfl (lv_at hl 3 rfl) ?_
        refine r_gR C0 hW (ms_lt hj 14 (by decide)) (ceX_m hj G 14 _ _) rfl hiX1 (k := 0) (by decide) kf_X1_9 rfl rfl rfl dX1_countOpenWith_21 ?_
        refine lv_iload_n hx hb dX1_countOpenWith_24 rfl (lv_at hl 1 rfl) ?_
        refine r_ild C0 hW (ms_lt hj 15 (by decide)) (ceX_m hj G 15 _ _) (n := 120) (by omega) (by omega) (by omega) dX1_countOpenWith_25 (fun z4 (hz4 : z4 = gA (w j) 15 x3) rz4 => ?_)
        have rz4a := rz4.1
        have rz4b := rz4.2
        refine lv_iload_n hx hb dX1_countOpenWith_26 rfl (lv_at hl 4 rfl) ?_
        refine r_icmp_eq (tgt := 40) hx hb rz4 rco dX1_countOpenWith_27 (by decide) (fun c5 => ?_) (fun c5 => ?_)
        · refine r_iconst hx hb dX1_countOpenWith_40 ?_
          refine lv_goto (tgt := 45) hx hb dX1_countOpenWith_41 (by decide) ?_
          refine k_Ni (own := "") C0 hW (As := [.int (iI 1)]) (c_X5_oneIf l G w 1 ⟨by omega, by omega⟩) C0.nst.2.2.2.2.2.2.1 ks_X5_oneIf kn_X5 kc_X5_oneIf hdS_X5_oneIf ⟨by decide, by decide⟩ rfl hl.1 rfl (Nat.le_of_ble_eq_true rfl) dX1_countOpenWith_45 (fun z6 w6 H1 locs1 rz6 hp6 hW => ?_)
          obtain ⟨hp6, hq6⟩ := hp6
          subst hq6
          have rz6a := rz6.1
          have rz6b := rz6.2
          rcases hp6 with ⟨e6, hp6⟩ | ⟨e6, hp6⟩
          · subst e6
            refine r_iadd hx hb dX1_countOpenWith_48 ?_
            refine lv_istore_n (lv' := [(2, .int (iI (x2 + 1))), (4, .int (iI z2)), (3, .int (iI x3)), (0, .ref (ad G j 14)), (1, .int (iI co))]) hx hb dX1_countOpenWith_49 rfl hl (by decide) rfl (fun ls hl => ?_)
            refine r_iinc (lv' := [(3, .int (iI (x3 + 1))), (2, .int (iI (x2 + 1))), (4, .int (iI z2)), (0, .ref (ad G j 14)), (1, .int (iI co))]) hx hb dX1_countOpenWith_50 hl (k := 2) rfl (by decide) rfl (fun ls hl => ?_)
            refine lv_goto (tgt := 13) hx hb dX1_countOpenWith_53 (by decide) ?_
            exact ih13 (x2 + 1) (x3 + 1) _ _ ls (by omega) (by omega) (by omega) (by first | (rw [cntI_t (by omega) (by first | assumption | (unfold pDi at *; omega))]; omega) | (rw [cntI_f (by omega) (by first | assumption | (unfold pDi at *; omega))]; omega)) hW (lv_sub hl [2, 0, 1, 3, 4] rfl)
          · subst e6
            refine r_iadd hx hb dX1_countOpenWith_48 ?_
            refine lv_istore_n (lv' := [(2, .int (iI (x2 + 0))), (4, .int (iI z2)), (3, .int (iI x3)), (0, .ref (ad G j 14)), (1, .int (iI co))]) hx hb dX1_countOpenWith_49 rfl hl (by decide) rfl (fun ls hl => ?_)
            refine r_iinc (lv' := [(3, .int (iI (x3 + 1))), (2, .int (iI (x2 + 0))), (4, .int (iI z2)), (0, .ref (ad G j 14)), (1, .int (iI co))]) hx hb dX1_countOpenWith_50 hl (k := 2) rfl (by decide) rfl (fun ls hl => ?_)
            refine lv_goto (tgt := 13) hx hb dX1_countOpenWith_53 (by decide) ?_
            exact ih13 (x2 + 0) (x3 + 1) _ _ ls (by omega) (by omega) (by omega) (by first | (rw [cntI_t (by omega) (by first | assumption | (unfold pDi at *; omega))]; omega) | (rw [cntI_f (by omega) (by first | assumption | (unfold pDi at *; omega))]; omega)) hW (lv_sub hl [2, 0, 1, 3, 4] rfl)
        · refine lv_aload_n hx hb dX1_countOpenWith_30 rfl (lv_at hl 3 rfl) ?_
          refine r_gR C0 hW (ms_lt hj 14 (by decide)) (ceX_m hj G 14 _ _) rfl hiX1 (k := 1) (by decide) kf_X1_15 rfl rfl rfl dX1_countOpenWith_31 ?_
          refine lv_iload_n hx hb dX1_countOpenWith_34 rfl (lv_at hl 1 rfl) ?_
          refine r_ild C0 hW (ms_lt hj 16 (by decide)) (ceX_m hj G 16 _ _) (n := 120) (by omega) (by omega) (by omega) dX1_countOpenWith_35 (fun z7 (hz7 : z7 = gA (w j) 16 x3) rz7 => ?_)
          have rz7a := rz7.1
          have rz7b := rz7.2
          refine lv_iload_n hx hb dX1_countOpenWith_36 rfl (lv_at hl 4 rfl) ?_
          refine r_icmp_ne (tgt := 44) hx hb rz7 rco dX1_countOpenWith_37 (by decide) (fun c8 => ?_) (fun c8 => ?_)
          · refine r_iconst hx hb dX1_countOpenWith_44 ?_
            refine k_Ni (own := "") C0 hW (As := [.int (iI 0)]) (c_X5_oneIf l G w 0 ⟨by omega, by omega⟩) C0.nst.2.2.2.2.2.2.1 ks_X5_oneIf kn_X5 kc_X5_oneIf hdS_X5_oneIf ⟨by decide, by decide⟩ rfl hl.1 rfl (Nat.le_of_ble_eq_true rfl) dX1_countOpenWith_45 (fun z9 w9 H1 locs1 rz9 hp9 hW => ?_)
            obtain ⟨hp9, hq9⟩ := hp9
            subst hq9
            have rz9a := rz9.1
            have rz9b := rz9.2
            rcases hp9 with ⟨e9, hp9⟩ | ⟨e9, hp9⟩
            · subst e9
              refine r_iadd hx hb dX1_countOpenWith_48 ?_
              refine lv_istore_n (lv' := [(2, .int (iI (x2 + 1))), (4, .int (iI z2)), (3, .int (iI x3)), (0, .ref (ad G j 14)), (1, .int (iI co))]) hx hb dX1_countOpenWith_49 rfl hl (by decide) rfl (fun ls hl => ?_)
              refine r_iinc (lv' := [(3, .int (iI (x3 + 1))), (2, .int (iI (x2 + 1))), (4, .int (iI z2)), (0, .ref (ad G j 14)), (1, .int (iI co))]) hx hb dX1_countOpenWith_50 hl (k := 2) rfl (by decide) rfl (fun ls hl => ?_)
              refine lv_goto (tgt := 13) hx hb dX1_countOpenWith_53 (by decide) ?_
              exact ih13 (x2 + 1) (x3 + 1) _ _ ls (by omega) (by omega) (by omega) (by first | (rw [cntI_t (by omega) (by first | assumption | (unfold pDi at *; omega))]; omega) | (rw [cntI_f (by omega) (by first | assumption | (unfold pDi at *; omega))]; omega)) hW (lv_sub hl [2, 0, 1, 3, 4] rfl)
            · subst e9
              refine r_iadd hx hb dX1_countOpenWith_48 ?_
              refine lv_istore_n (lv' := [(2, .int (iI (x2 + 0))), (4, .int (iI z2)), (3, .int (iI x3)), (0, .ref (ad G j 14)), (1, .int (iI co))]) hx hb dX1_countOpenWith_49 rfl hl (by decide) rfl (fun ls hl => ?_)
              refine r_iinc (lv' := [(3, .int (iI (x3 + 1))), (2, .int (iI (x2 + 0))), (4, .int (iI z2)), (0, .ref (ad G j 14)), (1, .int (iI co))]) hx hb dX1_countOpenWith_50 hl (k := 2) rfl (by decide) rfl (fun ls hl => ?_)
              refine lv_goto (tgt := 13) hx hb dX1_countOpenWith_53 (by decide) ?_
              exact ih13 (x2 + 0) (x3 + 1) _ _ ls (by omega) (by omega) (by omega) (by first | (rw [cntI_t (by omega) (by first | assumption | (unfold pDi at *; omega))]; omega) | (rw [cntI_f (by omega) (by first | assumption | (unfold pDi at *; omega))]; omega)) hW (lv_sub hl [2, 0, 1, 3, 4] rfl)
          · refine r_iconst hx hb dX1_countOpenWith_40 ?_
            refine lv_goto (tgt := 45) hx hb dX1_countOpenWith_41 (by decide) ?_
            refine k_Ni (own := "") C0 hW (As := [.int (iI 1)]) (c_X5_oneIf l G w 1 ⟨by omega, by omega⟩) C0.nst.2.2.2.2.2.2.1 ks_X5_oneIf kn_X5 kc_X5_oneIf hdS_X5_oneIf ⟨by decide, by decide⟩ rfl hl.1 rfl (Nat.le_of_ble_eq_true rfl) dX1_countOpenWith_45 (fun z10 w10 H1 locs1 rz10 hp10 hW => ?_)
            obtain ⟨hp10, hq10⟩ := hp10
            subst hq10
            have rz10a := rz10.1
            have rz10b := rz10.2
            rcases hp10 with ⟨e10, hp10⟩ | ⟨e10, hp10⟩
            · subst e10
              refine r_iadd hx hb dX1_countOpenWith_48 ?_
              refine lv_istore_n (lv' := [(2, .int (iI (x2 + 1))), (4, .int (iI z2)), (3, .int (iI x3)), (0, .ref (ad G j 14)), (1, .int (iI co))]) hx hb dX1_countOpenWith_49 rfl hl (by decide) rfl (fun ls hl => ?_)
              refine r_iinc (lv' := [(3, .int (iI (x3 + 1))), (2, .int (iI (x2 + 1))), (4, .int (iI z2)), (0, .ref (ad G j 14)), (1, .int (iI co))]) hx hb dX1_countOpenWith_50 hl (k := 2) rfl (by decide) rfl (fun ls hl => ?_)
              refine lv_goto (tgt := 13) hx hb dX1_countOpenWith_53 (by decide) ?_
              exact ih13 (x2 + 1) (x3 + 1) _ _ ls (by omega) (by omega) (by omega) (by first | (rw [cntI_t (by omega) (by first | assumption | (unfold pDi at *; omega))]; omega) | (rw [cntI_f (by omega) (by first | assumption | (unfold pDi at *; omega))]; omega)) hW (lv_sub hl [2, 0, 1, 3, 4] rfl)
            · subst e10
              refine r_iadd hx hb dX1_countOpenWith_48 ?_
              refine lv_istore_n (lv' := [(2, .int (iI (x2 + 0))), (4, .int (iI z2)), (3, .int (iI x3)), (0, .ref (ad G j 14)), (1, .int (iI co))]) hx hb dX1_countOpenWith_49 rfl hl (by decide) rfl (fun ls hl => ?_)
              refine r_iinc (lv' := [(3, .int (iI (x3 + 1))), (2, .int (iI (x2 + 0))), (4, .int (iI z2)), (0, .ref (ad G j 14)), (1, .int (iI co))]) hx hb dX1_countOpenWith_50 hl (k := 2) rfl (by decide) rfl (fun ls hl => ?_)
              refine lv_goto (tgt := 13) hx hb dX1_countOpenWith_53 (by decide) ?_
              exact ih13 (x2 + 0) (x3 + 1) _ _ ls (by omega) (by omega) (by omega) (by first | (rw [cntI_t (by omega) (by first | assumption | (unfold pDi at *; omega))]; omega) | (rw [cntI_f (by omega) (by first | assumption | (unfold pDi at *; omega))]; omega)) hW (lv_sub hl [2, 0, 1, 3, 4] rfl)
  exact hL13 121 0 z1 _ _ ls (by omega) (by omega) (by omega) (by rw [show gN (w j) 14 4 = z1 from by omega]; omega) hW (lv_sub hl [0, 1, 2, 3, 4] rfl)

/-- X1_open: its end -/
def po_X1_open (w : gW) (j : Nat) (co : Int) (wr : Int) (ro : Int) (pl : Int) : gW → Prop := fun w1 => w1 = up w j (opnM (w j) co wr ro pl)
theorem hdV_X1_open : yX1_open.cls = RX1 ∧ yX1_open.cls ≠ "java/lang/invoke/MethodHandle" ∧ yX1_open.cls ≠ "java/lang/invoke/VarHandle" ∧ (parseMethodDescriptor yX1_open.desc).map (fun d => d.parameters.length) = some 4 := by decide +kernel
set_option maxHeartbeats 4000000 in
set_option maxRecDepth 100000 in
theorem c_X1_open (l : Launch) (G : gG) (w : gW) {j : Nat} (hj : ms j) (hwf : wf (w j)) (co : Int) (wr : Int) (ro : Int) (pl : Int) (rco : inR co) (rwr : inR wr) (rro : inR ro) (rpl : inR pl) (hn9 : gN (w j) 14 5 < 120) : mV l G yX1_open (wU yX1_open cX1_open 5 none) (rmL 0 0) [.ref (ad G j 14), .int (iI co), .int (iI wr), .int (iI ro), .int (iI pl)] w (po_X1_open w j co wr ro pl) := by
  refine mV_of (by decide +kernel) (Nat.le_of_ble_eq_true rfl) (fun p e s m args below meth c ls C0 hW hl => ?_)
  have hl : lv_has ls 5 [(0, .ref (ad G j 14)), (1, .int (iI co)), (2, .int (iI wr)), (3, .int (iI ro)), (4, .int (iI pl))] := hl
  have hx := C0.hx
  have hb := C0.hb
  obtain ⟨⟨hs1, hs2⟩, ⟨hd1, hd2, hd3⟩, -⟩ := id hwf
  refine lv_aload_n hx hb dX1_open_0 rfl (lv_at hl 0 rfl) ?_
  refine r_gI C0 hW (ms_lt hj 14 (by decide)) (ceX_m hj G 14 _ _) rfl hiX1 (k := 5) (by decide) kf_X1_32 rfl rfl rfl dX1_open_1 (fun z1 (hz1 : z1 = gN (w j) 14 5) rz1 => ?_)
  have rz1a := rz1.1
  have rz1b := rz1.2
  refine r_bipush hx hb dX1_open_4 (by decide) ?_
  refine r_icmp_ge (tgt := 60) hx hb rz1 ⟨by omega, by omega⟩ dX1_open_6 (by decide) (fun c2 => ?_) (fun c2 => ?_)
  · exact r_vret C0 hW (by unfold po_X1_open; first | omega | (simp only [id, up_up, up_s, opnM, hz1])) dX1_open_60
  · refine lv_aload_n hx hb dX1_open_9 rfl (lv_at hl 0 rfl) ?_
    refine r_gR C0 hW (ms_lt hj 14 (by decide)) (ceX_m hj G 14 _ _) rfl hiX1 (k := 0) (by decide) kf_X1_9 rfl rfl rfl dX1_open_10 ?_
    refine lv_aload_n hx hb dX1_open_13 rfl (lv_at hl 0 rfl) ?_
    refine r_gI C0 hW (ms_lt hj 14 (by decide)) (ceX_m hj G 14 _ _) rfl hiX1 (k := 5) (by decide) kf_X1_32 rfl rfl rfl dX1_open_14 (fun z3 (hz3 : z3 = gN (w j) 14 5) rz3 => ?_)
    have rz3a := rz3.1
    have rz3b := rz3.2
    refine lv_iload_n hx hb dX1_open_17 rfl (lv_at hl 1 rfl) ?_
    refine r_ist C0 hW (ms_lt hj 15 (by decide)) (fun A => (ceX_m hj G 15 _ _)) (n := 120) (v := iI co) (by omega) (by omega) (by decide) dX1_open_18 (fun H1 locs1 hW => ?_)
    obtain ⟨w4, hw4⟩ : ∃ wq9 : gW, wq9 = up w j (sA (w j) 15 z3 (iI co)) := ⟨_, rfl⟩
    rw [← hw4] at hW
    refine lv_aload_n hx hb dX1_open_19 rfl (lv_at hl 0 rfl) ?_
    refine r_gR C0 hW (ms_lt hj 14 (by decide)) (ceX_m hj G 14 _ _) rfl hiX1 (k := 1) (by decide) kf_X1_15 rfl rfl rfl dX1_open_20 ?_
    refine lv_aload_n hx hb dX1_open_23 rfl (lv_at hl 0 rfl) ?_
    refine r_gI C0 hW (ms_lt hj 14 (by decide)) (ceX_m hj G 14 _ _) rfl hiX1 (k := 5) (by decide) kf_X1_32 rfl rfl rfl dX1_open_24 (fun z5 (hz5 : z5 = gN (w4 j) 14 5) rz5 => ?_)
    have rz5a := rz5.1
    have rz5b := rz5.2
    try simp (decide := true) only [hw4, up_s, gA_sF, gN_sF, gA_sA, gN_sA, gA_sS, gN_sS, if_true, if_false, true_and, and_true, false_and, and_false] at hz5
    refine lv_iload_n hx hb dX1_open_27 rfl (lv_at hl 2 rfl) ?_
    refine r_ist C0 hW (ms_lt hj 16 (by decide)) (fun A => (ceX_m hj G 16 _ _)) (n := 120) (v := iI wr) (by omega) (by omega) (by decide) dX1_open_28 (fun H1 locs1 hW => ?_)
    obtain ⟨w6, hw6⟩ : ∃ wq9 : gW, wq9 = up w4 j (sA (w4 j) 16 z5 (iI wr)) := ⟨_, rfl⟩
    rw [← hw6] at hW
    refine lv_aload_n hx hb dX1_open_29 rfl (lv_at hl 0 rfl) ?_
    refine r_gR C0 hW (ms_lt hj 14 (by decide)) (ceX_m hj G 14 _ _) rfl hiX1 (k := 2) (by decide) kf_X1_18 rfl rfl rfl dX1_open_30 ?_
    refine lv_aload_n hx hb dX1_open_33 rfl (lv_at hl 0 rfl) ?_
    refine r_gI C0 hW (ms_lt hj 14 (by decide)) (ceX_m hj G 14 _ _) rfl hiX1 (k := 5) (by decide) kf_X1_32 rfl rfl rfl dX1_open_34 (fun z7 (hz7 : z7 = gN (w6 j) 14 5) rz7 => ?_)
    have rz7a := rz7.1
    have rz7b := rz7.2
    try simp (decide := true) only [hw6, hw4, up_s, gA_sF, gN_sF, gA_sA, gN_sA, gA_sS, gN_sS, if_true, if_false, true_and, and_true, false_and, and_false] at hz7
    refine lv_iload_n hx hb dX1_open_37 rfl (lv_at hl 3 rfl) ?_
    refine r_ist C0 hW (ms_lt hj 17 (by decide)) (fun A => (ceX_m hj G 17 _ _)) (n := 120) (v := iI ro) (by omega) (by omega) (by decide) dX1_open_38 (fun H1 locs1 hW => ?_)
    obtain ⟨w8, hw8⟩ : ∃ wq9 : gW, wq9 = up w6 j (sA (w6 j) 17 z7 (iI ro)) := ⟨_, rfl⟩
    rw [← hw8] at hW
    refine lv_aload_n hx hb dX1_open_39 rfl (lv_at hl 0 rfl) ?_
    refine r_gR C0 hW (ms_lt hj 14 (by decide)) (ceX_m hj G 14 _ _) rfl hiX1 (k := 3) (by decide) kf_X1_21 rfl rfl rfl dX1_open_40 ?_
    refine lv_aload_n hx hb dX1_open_43 rfl (lv_at hl 0 rfl) ?_
    refine r_gI C0 hW (ms_lt hj 14 (by decide)) (ceX_m hj G 14 _ _) rfl hiX1 (k := 5) (by decide) kf_X1_32 rfl rfl rfl dX1_open_44 (fun z9 (hz9 : z9 = gN (w8 j) 14 5) rz9 => ?_)
    have rz9a := rz9.1
    have rz9b := rz9.2
    try simp (decide := true) only [hw8, hw6, hw4, up_s, gA_sF, gN_sF, gA_sA, gN_sA, gA_sS, gN_sS, if_true, if_false, true_and, and_true, false_and, and_false] at hz9
    refine lv_iload hx hb dX1_open_47 (lv_at hl 4 rfl) ?_
    refine r_ist C0 hW (ms_lt hj 18 (by decide)) (fun A => (ceX_m hj G 18 _ _)) (n := 120) (v := iI pl) (by omega) (by omega) (by decide) dX1_open_49 (fun H1 locs1 hW => ?_)
    obtain ⟨w10, hw10⟩ : ∃ wq9 : gW, wq9 = up w8 j (sA (w8 j) 18 z9 (iI pl)) := ⟨_, rfl⟩
    rw [← hw10] at hW
    refine lv_aload_n hx hb dX1_open_50 rfl (lv_at hl 0 rfl) ?_
    refine lv_dup hx hb dX1_open_51 rfl ?_
    refine r_gI C0 hW (ms_lt hj 14 (by decide)) (ceX_m hj G 14 _ _) rfl hiX1 (k := 5) (by decide) kf_X1_32 rfl rfl rfl dX1_open_52 (fun z11 (hz11 : z11 = gN (w10 j) 14 5) rz11 => ?_)
    have rz11a := rz11.1
    have rz11b := rz11.2
    try simp (decide := true) only [hw10, hw8, hw6, hw4, up_s, gA_sF, gN_sF, gA_sA, gN_sA, gA_sS, gN_sS, if_true, if_false, true_and, and_true, false_and, and_false] at hz11
    refine r_iconst hx hb dX1_open_55 ?_
    refine r_iadd hx hb dX1_open_56 ?_
    refine r_pI C0 hW (ms_lt hj 14 (by decide)) (ceX_m hj G 14 _ _) rfl hiX1 tyX1 tyX1_ok nmX1 (k := 5) (v := iI (z11 + 1)) (by decide) kf_X1_32 rfl rfl rfl (tyX1_ok 5 (by decide)) rfl rfl (by simp) (ceX_m hj G 14 _ _) dX1_open_57 (fun H1 locs1 hW => ?_)
    obtain ⟨w12, hw12⟩ : ∃ wq9 : gW, wq9 = up w10 j (sS (w10 j) 14 5 (iI (z11 + 1))) := ⟨_, rfl⟩
    rw [← hw12] at hW
    exact r_vret C0 hW (by unfold po_X1_open; first | omega | (simp only [hw12, hw10, hw8, hw6, hw4, up_up, up_s, opnM, hz1, hz3, hz5, hz7, hz9, hz11])) dX1_open_60

def po_X5_copyNumbers (w : gW) (j1 k1 j2 k2 : Nat) : gW → Prop := fun w1 => w1 = up w j2 (sF (w j2) k2 ((w j1).1 k1))
theorem hdS_X5_copyNumbers : yX5_copyNumbers.cls ≠ "java/lang/invoke/MethodHandle" ∧ yX5_copyNumbers.cls ≠ "java/lang/invoke/VarHandle" ∧ (parseMethodDescriptor yX5_copyNumbers.desc).map (fun d => d.parameters.length) = some 2 := by decide +kernel
set_option maxHeartbeats 4000000 in
set_option maxRecDepth 100000 in
theorem c_X5_copyNumbers (l : Launch) (G : gG) (w : gW) {j1 k1 j2 k2 n : Nat} (hj1 : j1 < 11 ∧ k1 < bs j1) (hj2 : j2 < 11 ∧ k2 < bs j2) (hn : n < 2147483648) (he1 : ∀ A : Int → Int32, ceX G j1 k1 A ((w j1).2 k1) = cI G n A) (he2 : ∀ A : Int → Int32, ceX G j2 k2 A ((w j2).2 k2) = cI G n A) : mV l G yX5_copyNumbers (wU yX5_copyNumbers cX5_copyNumbers 2 none) (rmL 1 18) [.ref (ad G j1 k1), .ref (ad G j2 k2)] w (po_X5_copyNumbers w j1 k1 j2 k2) := by
  refine mV_of (by decide +kernel) (Nat.le_of_ble_eq_true rfl) (fun p e s m args below meth c ls C0 hW hl => ?_)
  have hl : lv_has ls 2 [(0, .ref (ad G j1 k1)), (1, .ref (ad G j2 k2))] := hl
  have hx := C0.hx
  have hb := C0.hb
  have rn : inR (n : Int) := ⟨by omega, by omega⟩
  refine lv_aload_n hx hb dX5_copyNumbers_0 rfl (lv_at hl 0 rfl) ?_
  refine r_iconst hx hb dX5_copyNumbers_1 ?_
  refine lv_aload_n hx hb dX5_copyNumbers_2 rfl (lv_at hl 1 rfl) ?_
  refine r_iconst hx hb dX5_copyNumbers_3 ?_
  refine lv_aload_n hx hb dX5_copyNumbers_4 rfl (lv_at hl 0 rfl) ?_
  refine r_alen C0 hW hj1 hn (Or.inl (he1 _)) dX5_copyNumbers_5 ?_
  refine lv_aload_n hx hb dX5_copyNumbers_6 rfl (lv_at hl 1 rfl) ?_
  refine r_alen C0 hW hj2 hn (Or.inl (he2 _)) dX5_copyNumbers_7 ?_
  refine r_min C0 rn rn km_X5_240 ks_J9_min_7cf53 kn_J9 kc_min rfl hl.1 (by decide) (Nat.le_of_ble_eq_true rfl) dX5_copyNumbers_8 ?_
  rw [show min (n : Int) (n : Int) = (n : Int) from by omega]
  refine r_copyI C0 hW hj1 hj2 hn (he1 _) he2 km_X5_245 kv_arraycopyName ks_arraycopyName kn_J10 rfl hl.1 (by decide) (Nat.le_of_ble_eq_true rfl) dX5_copyNumbers_11 (fun H1 locs1 hW => ?_)
  exact r_vret C0 hW rfl dX5_copyNumbers_14

def po_X5_copyFlags (w : gW) (j1 k1 j2 k2 : Nat) : gW → Prop := fun w1 => w1 = up w j2 (sF (w j2) k2 ((w j1).1 k1))
theorem hdS_X5_copyFlags : yX5_copyFlags.cls ≠ "java/lang/invoke/MethodHandle" ∧ yX5_copyFlags.cls ≠ "java/lang/invoke/VarHandle" ∧ (parseMethodDescriptor yX5_copyFlags.desc).map (fun d => d.parameters.length) = some 2 := by decide +kernel
set_option maxHeartbeats 4000000 in
set_option maxRecDepth 100000 in
theorem c_X5_copyFlags (l : Launch) (G : gG) (w : gW) {j1 k1 j2 k2 n : Nat} (hj1 : j1 < 11 ∧ k1 < bs j1) (hj2 : j2 < 11 ∧ k2 < bs j2) (hn : n < 2147483648) (he1 : ∀ A : Int → Int32, ceX G j1 k1 A ((w j1).2 k1) = cZ G n A) (he2 : ∀ A : Int → Int32, ceX G j2 k2 A ((w j2).2 k2) = cZ G n A) (hz : ∀ i : Int, 0 ≤ i → i < n → (w j1).1 k1 i = 0 ∨ (w j1).1 k1 i = 1) : mV l G yX5_copyFlags (wU yX5_copyFlags cX5_copyFlags 2 none) (rmL 1 18) [.ref (ad G j1 k1), .ref (ad G j2 k2)] w (po_X5_copyFlags w j1 k1 j2 k2) := by
  refine mV_of (by decide +kernel) (Nat.le_of_ble_eq_true rfl) (fun p e s m args below meth c ls C0 hW hl => ?_)
  have hl : lv_has ls 2 [(0, .ref (ad G j1 k1)), (1, .ref (ad G j2 k2))] := hl
  have hx := C0.hx
  have hb := C0.hb
  have rn : inR (n : Int) := ⟨by omega, by omega⟩
  refine lv_aload_n hx hb dX5_copyFlags_0 rfl (lv_at hl 0 rfl) ?_
  refine r_iconst hx hb dX5_copyFlags_1 ?_
  refine lv_aload_n hx hb dX5_copyFlags_2 rfl (lv_at hl 1 rfl) ?_
  refine r_iconst hx hb dX5_copyFlags_3 ?_
  refine lv_aload_n hx hb dX5_copyFlags_4 rfl (lv_at hl 0 rfl) ?_
  refine r_alen C0 hW hj1 hn (Or.inr (he1 _)) dX5_copyFlags_5 ?_
  refine lv_aload_n hx hb dX5_copyFlags_6 rfl (lv_at hl 1 rfl) ?_
  refine r_alen C0 hW hj2 hn (Or.inr (he2 _)) dX5_copyFlags_7 ?_
  refine r_min C0 rn rn km_X5_240 ks_J9_min_7cf53 kn_J9 kc_min rfl hl.1 (by decide) (Nat.le_of_ble_eq_true rfl) dX5_copyFlags_8 ?_
  rw [show min (n : Int) (n : Int) = (n : Int) from by omega]
  refine r_copyZ C0 hW hj1 hj2 hn (he1 _) he2 hz km_X5_245 kv_arraycopyName ks_arraycopyName kn_J10 rfl hl.1 (by decide) (Nat.le_of_ble_eq_true rfl) dX5_copyFlags_11 (fun H1 locs1 hW => ?_)
  exact r_vret C0 hW rfl dX5_copyFlags_14

/-- X4_copyFrom: its end -/
def po_X4_copyFrom (w : gW) (j : Nat) (j2 : Nat) : gW → Prop := fun w1 => w1 = up w j (rowC (w j) (w j2))
theorem hdV_X4_copyFrom : yX4_copyFrom.cls = RX4 ∧ yX4_copyFrom.cls ≠ "java/lang/invoke/MethodHandle" ∧ yX4_copyFrom.cls ≠ "java/lang/invoke/VarHandle" ∧ (parseMethodDescriptor yX4_copyFrom.desc).map (fun d => d.parameters.length) = some 1 := by decide +kernel
set_option maxHeartbeats 4000000 in
set_option maxRecDepth 100000 in
theorem c_X4_copyFrom (l : Launch) (G : gG) (w : gW) {j : Nat} {j2 : Nat} (hj : ms j) (hj2 : ms j2) (hne : ¬ j2 = j) (hwf : wf (w j2)) : mV l G yX4_copyFrom (wU yX4_copyFrom cX4_copyFrom 2 none) (rmL 2 39) [.ref (ad G j 7), .ref (ad G j2 7)] w (po_X4_copyFrom w j j2) := by
  refine mV_of (by decide +kernel) (Nat.le_of_ble_eq_true rfl) (fun p e s m args below meth c ls C0 hW hl => ?_)
  have hl : lv_has ls 2 [(0, .ref (ad G j 7)), (1, .ref (ad G j2 7))] := hl
  have hx := C0.hx
  have hb := C0.hb
  have hun : ∀ (w : gW) (M : gM), up w j M j2 = w j2 := fun w M => up_n w M hne
  obtain ⟨-, -, -, hf1, hf2, hf3, -⟩ := id hwf
  refine lv_aload_n hx hb dX4_copyFrom_0 rfl (lv_at hl 1 rfl) ?_
  refine r_gR C0 hW (ms_lt hj2 7 (by decide)) (ceX_m hj2 G 7 _ _) rfl hiX4 (k := 0) (by decide) kf_X4_9 rfl rfl rfl dX4_copyFrom_1 ?_
  refine lv_aload_n hx hb dX4_copyFrom_4 rfl (lv_at hl 0 rfl) ?_
  refine r_gR C0 hW (ms_lt hj 7 (by decide)) (ceX_m hj G 7 _ _) rfl hiX4 (k := 0) (by decide) kf_X4_9 rfl rfl rfl dX4_copyFrom_5 ?_
  refine k_Nv (own := "") C0 hW (As := [.ref (ad G j2 8), .ref (ad G j 8)]) (c_X5_copyNumbers l G w (n := 120) (ms_lt hj2 8 (by decide)) (ms_lt hj 8 (by decide)) (by decide) (fun A => (ceX_m hj2 G 8 _ _)) (fun A => (ceX_m hj G 8 _ _))) C0.nst.2.1 ks_X5_copyNumbers kn_X5 kc_X5_copyNumbers hdS_X5_copyNumbers ⟨by decide, by decide⟩ rfl hl.1 rfl (Nat.le_of_ble_eq_true rfl) dX4_copyFrom_8 (fun w1 H1 locs1 hp1 hW => ?_)
  have hw1 : w1 = _ := hp1
  refine lv_aload_n hx hb dX4_copyFrom_11 rfl (lv_at hl 1 rfl) ?_
  refine r_gR C0 hW (ms_lt hj2 7 (by decide)) (ceX_m hj2 G 7 _ _) rfl hiX4 (k := 1) (by decide) kf_X4_15 rfl rfl rfl dX4_copyFrom_12 ?_
  refine lv_aload_n hx hb dX4_copyFrom_15 rfl (lv_at hl 0 rfl) ?_
  refine r_gR C0 hW (ms_lt hj 7 (by decide)) (ceX_m hj G 7 _ _) rfl hiX4 (k := 1) (by decide) kf_X4_15 rfl rfl rfl dX4_copyFrom_16 ?_
  refine k_Nv (own := "") C0 hW (As := [.ref (ad G j2 9), .ref (ad G j 9)]) (c_X5_copyNumbers l G w1 (n := 120) (ms_lt hj2 9 (by decide)) (ms_lt hj 9 (by decide)) (by decide) (fun A => (ceX_m hj2 G 9 _ _)) (fun A => (ceX_m hj G 9 _ _))) C0.nst.2.1 ks_X5_copyNumbers kn_X5 kc_X5_copyNumbers hdS_X5_copyNumbers ⟨by decide, by decide⟩ rfl hl.1 rfl (Nat.le_of_ble_eq_true rfl) dX4_copyFrom_19 (fun w2 H1 locs1 hp2 hW => ?_)
  have hw2 : w2 = _ := hp2
  refine lv_aload_n hx hb dX4_copyFrom_22 rfl (lv_at hl 1 rfl) ?_
  refine r_gR C0 hW (ms_lt hj2 7 (by decide)) (ceX_m hj2 G 7 _ _) rfl hiX4 (k := 2) (by decide) kf_X4_18 rfl rfl rfl dX4_copyFrom_23 ?_
  refine lv_aload_n hx hb dX4_copyFrom_26 rfl (lv_at hl 0 rfl) ?_
  refine r_gR C0 hW (ms_lt hj 7 (by decide)) (ceX_m hj G 7 _ _) rfl hiX4 (k := 2) (by decide) kf_X4_18 rfl rfl rfl dX4_copyFrom_27 ?_
  refine k_Nv (own := "") C0 hW (As := [.ref (ad G j2 10), .ref (ad G j 10)]) (c_X5_copyNumbers l G w2 (n := 120) (ms_lt hj2 10 (by decide)) (ms_lt hj 10 (by decide)) (by decide) (fun A => (ceX_m hj2 G 10 _ _)) (fun A => (ceX_m hj G 10 _ _))) C0.nst.2.1 ks_X5_copyNumbers kn_X5 kc_X5_copyNumbers hdS_X5_copyNumbers ⟨by decide, by decide⟩ rfl hl.1 rfl (Nat.le_of_ble_eq_true rfl) dX4_copyFrom_30 (fun w3 H1 locs1 hp3 hW => ?_)
  have hw3 : w3 = _ := hp3
  refine lv_aload_n hx hb dX4_copyFrom_33 rfl (lv_at hl 1 rfl) ?_
  refine r_gR C0 hW (ms_lt hj2 7 (by decide)) (ceX_m hj2 G 7 _ _) rfl hiX4 (k := 3) (by decide) kf_X4_21 rfl rfl rfl dX4_copyFrom_34 ?_
  refine lv_aload_n hx hb dX4_copyFrom_37 rfl (lv_at hl 0 rfl) ?_
  refine r_gR C0 hW (ms_lt hj 7 (by decide)) (ceX_m hj G 7 _ _) rfl hiX4 (k := 3) (by decide) kf_X4_21 rfl rfl rfl dX4_copyFrom_38 ?_
  refine k_Nv (own := "") C0 hW (As := [.ref (ad G j2 11), .ref (ad G j 11)]) (c_X5_copyFlags l G w3 (n := 120) (ms_lt hj2 11 (by decide)) (ms_lt hj 11 (by decide)) (by decide) (fun A => (ceX_m hj2 G 11 _ _)) (fun A => (ceX_m hj G 11 _ _)) (by simp only [hw3, hw2, hw1, up_up, up_s, hun, sF]; exact fun i _ _ => hf1 i)) C0.nst.2.2.1 ks_X5_copyFlags kn_X5 kc_X5_copyFlags hdS_X5_copyFlags ⟨by decide, by decide⟩ rfl hl.1 rfl (Nat.le_of_ble_eq_true rfl) dX4_copyFrom_41 (fun w4 H1 locs1 hp4 hW => ?_)
  have hw4 : w4 = _ := hp4
  refine lv_aload_n hx hb dX4_copyFrom_44 rfl (lv_at hl 1 rfl) ?_
  refine r_gR C0 hW (ms_lt hj2 7 (by decide)) (ceX_m hj2 G 7 _ _) rfl hiX4 (k := 4) (by decide) kf_X4_25 rfl rfl rfl dX4_copyFrom_45 ?_
  refine lv_aload_n hx hb dX4_copyFrom_48 rfl (lv_at hl 0 rfl) ?_
  refine r_gR C0 hW (ms_lt hj 7 (by decide)) (ceX_m hj G 7 _ _) rfl hiX4 (k := 4) (by decide) kf_X4_25 rfl rfl rfl dX4_copyFrom_49 ?_
  refine k_Nv (own := "") C0 hW (As := [.ref (ad G j2 12), .ref (ad G j 12)]) (c_X5_copyFlags l G w4 (n := 120) (ms_lt hj2 12 (by decide)) (ms_lt hj 12 (by decide)) (by decide) (fun A => (ceX_m hj2 G 12 _ _)) (fun A => (ceX_m hj G 12 _ _)) (by simp only [hw4, hw3, hw2, hw1, up_up, up_s, hun, sF]; exact fun i _ _ => hf2 i)) C0.nst.2.2.1 ks_X5_copyFlags kn_X5 kc_X5_copyFlags hdS_X5_copyFlags ⟨by decide, by decide⟩ rfl hl.1 rfl (Nat.le_of_ble_eq_true rfl) dX4_copyFrom_52 (fun w5 H1 locs1 hp5 hW => ?_)
  have hw5 : w5 = _ := hp5
  refine lv_aload_n hx hb dX4_copyFrom_55 rfl (lv_at hl 1 rfl) ?_
  refine r_gR C0 hW (ms_lt hj2 7 (by decide)) (ceX_m hj2 G 7 _ _) rfl hiX4 (k := 5) (by decide) kf_X4_28 rfl rfl rfl dX4_copyFrom_56 ?_
  refine lv_aload_n hx hb dX4_copyFrom_59 rfl (lv_at hl 0 rfl) ?_
  refine r_gR C0 hW (ms_lt hj 7 (by decide)) (ceX_m hj G 7 _ _) rfl hiX4 (k := 5) (by decide) kf_X4_28 rfl rfl rfl dX4_copyFrom_60 ?_
  refine k_Nv (own := "") C0 hW (As := [.ref (ad G j2 13), .ref (ad G j 13)]) (c_X5_copyFlags l G w5 (n := 120) (ms_lt hj2 13 (by decide)) (ms_lt hj 13 (by decide)) (by decide) (fun A => (ceX_m hj2 G 13 _ _)) (fun A => (ceX_m hj G 13 _ _)) (by simp only [hw5, hw4, hw3, hw2, hw1, up_up, up_s, hun, sF]; exact fun i _ _ => hf3 i)) C0.nst.2.2.1 ks_X5_copyFlags kn_X5 kc_X5_copyFlags hdS_X5_copyFlags ⟨by decide, by decide⟩ rfl hl.1 rfl (Nat.le_of_ble_eq_true rfl) dX4_copyFrom_63 (fun w6 H1 locs1 hp6 hW => ?_)
  have hw6 : w6 = _ := hp6
  refine lv_aload_n hx hb dX4_copyFrom_66 rfl (lv_at hl 0 rfl) ?_
  refine lv_aload_n hx hb dX4_copyFrom_67 rfl (lv_at hl 1 rfl) ?_
  refine r_gI C0 hW (ms_lt hj2 7 (by decide)) (ceX_m hj2 G 7 _ _) rfl hiX4 (k := 6) (by decide) kf_X4_39 rfl rfl rfl dX4_copyFrom_68 (fun z7 (hz7 : z7 = gN (w6 j2) 7 6) rz7 => ?_)
  have rz7a := rz7.1
  have rz7b := rz7.2
  try simp (decide := true) only [hw6, hw5, hw4, hw3, hw2, hw1, up_s, gA_sF, gN_sF, gA_sA, gN_sA, gA_sS, gN_sS, if_true, if_false, true_and, and_true, false_and, and_false, hun] at hz7
  refine r_pI C0 hW (ms_lt hj 7 (by decide)) (ceX_m hj G 7 _ _) rfl hiX4 tyX4 tyX4_ok nmX4 (k := 6) (v := iI z7) (by decide) kf_X4_39 rfl rfl rfl (tyX4_ok 6 (by decide)) rfl rfl (by simp) (ceX_m hj G 7 _ _) dX4_copyFrom_71 (fun H1 locs1 hW => ?_)
  obtain ⟨w8, hw8⟩ : ∃ wq9 : gW, wq9 = up w6 j (sS (w6 j) 7 6 (iI z7)) := ⟨_, rfl⟩
  rw [← hw8] at hW
  exact r_vret C0 hW (by unfold po_X4_copyFrom; simp only [hw8, hw6, hw5, hw4, hw3, hw2, hw1, up_up, up_s, hun, rowC, hz7, gN_i]) dX4_copyFrom_74

/-- X1_copyFrom: its end -/
def po_X1_copyFrom (w : gW) (j : Nat) (j2 : Nat) : gW → Prop := fun w1 => w1 = up w j (disC (w j) (w j2))
theorem hdV_X1_copyFrom : yX1_copyFrom.cls = RX1 ∧ yX1_copyFrom.cls ≠ "java/lang/invoke/MethodHandle" ∧ yX1_copyFrom.cls ≠ "java/lang/invoke/VarHandle" ∧ (parseMethodDescriptor yX1_copyFrom.desc).map (fun d => d.parameters.length) = some 1 := by decide +kernel
set_option maxHeartbeats 4000000 in
set_option maxRecDepth 100000 in
theorem c_X1_copyFrom (l : Launch) (G : gG) (w : gW) {j : Nat} {j2 : Nat} (hj : ms j) (hj2 : ms j2) (hne : ¬ j2 = j) (hwf : wf (w j2)) : mV l G yX1_copyFrom (wU yX1_copyFrom cX1_copyFrom 2 none) (rmL 2 39) [.ref (ad G j 14), .ref (ad G j2 14)] w (po_X1_copyFrom w j j2) := by
  refine mV_of (by decide +kernel) (Nat.le_of_ble_eq_true rfl) (fun p e s m args below meth c ls C0 hW hl => ?_)
  have hl : lv_has ls 2 [(0, .ref (ad G j 14)), (1, .ref (ad G j2 14))] := hl
  have hx := C0.hx
  have hb := C0.hb
  have hun : ∀ (w : gW) (M : gM), up w j M j2 = w j2 := fun w M => up_n w M hne
  obtain ⟨-, -, -, hf1, hf2, hf3, -⟩ := id hwf
  refine lv_aload_n hx hb dX1_copyFrom_0 rfl (lv_at hl 1 rfl) ?_
  refine r_gR C0 hW (ms_lt hj2 14 (by decide)) (ceX_m hj2 G 14 _ _) rfl hiX1 (k := 0) (by decide) kf_X1_9 rfl rfl rfl dX1_copyFrom_1 ?_
  refine lv_aload_n hx hb dX1_copyFrom_4 rfl (lv_at hl 0 rfl) ?_
  refine r_gR C0 hW (ms_lt hj 14 (by decide)) (ceX_m hj G 14 _ _) rfl hiX1 (k := 0) (by decide) kf_X1_9 rfl rfl rfl dX1_copyFrom_5 ?_
  refine k_Nv (own := "") C0 hW (As := [.ref (ad G j2 15), .ref (ad G j 15)]) (c_X5_copyNumbers l G w (n := 120) (ms_lt hj2 15 (by decide)) (ms_lt hj 15 (by decide)) (by decide) (fun A => (ceX_m hj2 G 15 _ _)) (fun A => (ceX_m hj G 15 _ _))) C0.nst.2.2.2.1 ks_X5_copyNumbers kn_X5 kc_X5_copyNumbers hdS_X5_copyNumbers ⟨by decide, by decide⟩ rfl hl.1 rfl (Nat.le_of_ble_eq_true rfl) dX1_copyFrom_8 (fun w1 H1 locs1 hp1 hW => ?_)
  have hw1 : w1 = _ := hp1
  refine lv_aload_n hx hb dX1_copyFrom_11 rfl (lv_at hl 1 rfl) ?_
  refine r_gR C0 hW (ms_lt hj2 14 (by decide)) (ceX_m hj2 G 14 _ _) rfl hiX1 (k := 1) (by decide) kf_X1_15 rfl rfl rfl dX1_copyFrom_12 ?_
  refine lv_aload_n hx hb dX1_copyFrom_15 rfl (lv_at hl 0 rfl) ?_
  refine r_gR C0 hW (ms_lt hj 14 (by decide)) (ceX_m hj G 14 _ _) rfl hiX1 (k := 1) (by decide) kf_X1_15 rfl rfl rfl dX1_copyFrom_16 ?_
  refine k_Nv (own := "") C0 hW (As := [.ref (ad G j2 16), .ref (ad G j 16)]) (c_X5_copyNumbers l G w1 (n := 120) (ms_lt hj2 16 (by decide)) (ms_lt hj 16 (by decide)) (by decide) (fun A => (ceX_m hj2 G 16 _ _)) (fun A => (ceX_m hj G 16 _ _))) C0.nst.2.2.2.1 ks_X5_copyNumbers kn_X5 kc_X5_copyNumbers hdS_X5_copyNumbers ⟨by decide, by decide⟩ rfl hl.1 rfl (Nat.le_of_ble_eq_true rfl) dX1_copyFrom_19 (fun w2 H1 locs1 hp2 hW => ?_)
  have hw2 : w2 = _ := hp2
  refine lv_aload_n hx hb dX1_copyFrom_22 rfl (lv_at hl 1 rfl) ?_
  refine r_gR C0 hW (ms_lt hj2 14 (by decide)) (ceX_m hj2 G 14 _ _) rfl hiX1 (k := 2) (by decide) kf_X1_18 rfl rfl rfl dX1_copyFrom_23 ?_
  refine lv_aload_n hx hb dX1_copyFrom_26 rfl (lv_at hl 0 rfl) ?_
  refine r_gR C0 hW (ms_lt hj 14 (by decide)) (ceX_m hj G 14 _ _) rfl hiX1 (k := 2) (by decide) kf_X1_18 rfl rfl rfl dX1_copyFrom_27 ?_
  refine k_Nv (own := "") C0 hW (As := [.ref (ad G j2 17), .ref (ad G j 17)]) (c_X5_copyNumbers l G w2 (n := 120) (ms_lt hj2 17 (by decide)) (ms_lt hj 17 (by decide)) (by decide) (fun A => (ceX_m hj2 G 17 _ _)) (fun A => (ceX_m hj G 17 _ _))) C0.nst.2.2.2.1 ks_X5_copyNumbers kn_X5 kc_X5_copyNumbers hdS_X5_copyNumbers ⟨by decide, by decide⟩ rfl hl.1 rfl (Nat.le_of_ble_eq_true rfl) dX1_copyFrom_30 (fun w3 H1 locs1 hp3 hW => ?_)
  have hw3 : w3 = _ := hp3
  refine lv_aload_n hx hb dX1_copyFrom_33 rfl (lv_at hl 1 rfl) ?_
  refine r_gR C0 hW (ms_lt hj2 14 (by decide)) (ceX_m hj2 G 14 _ _) rfl hiX1 (k := 3) (by decide) kf_X1_21 rfl rfl rfl dX1_copyFrom_34 ?_
  refine lv_aload_n hx hb dX1_copyFrom_37 rfl (lv_at hl 0 rfl) ?_
  refine r_gR C0 hW (ms_lt hj 14 (by decide)) (ceX_m hj G 14 _ _) rfl hiX1 (k := 3) (by decide) kf_X1_21 rfl rfl rfl dX1_copyFrom_38 ?_
  refine k_Nv (own := "") C0 hW (As := [.ref (ad G j2 18), .ref (ad G j 18)]) (c_X5_copyNumbers l G w3 (n := 120) (ms_lt hj2 18 (by decide)) (ms_lt hj 18 (by decide)) (by decide) (fun A => (ceX_m hj2 G 18 _ _)) (fun A => (ceX_m hj G 18 _ _))) C0.nst.2.2.2.1 ks_X5_copyNumbers kn_X5 kc_X5_copyNumbers hdS_X5_copyNumbers ⟨by decide, by decide⟩ rfl hl.1 rfl (Nat.le_of_ble_eq_true rfl) dX1_copyFrom_41 (fun w4 H1 locs1 hp4 hW => ?_)
  have hw4 : w4 = _ := hp4
  refine lv_aload_n hx hb dX1_copyFrom_44 rfl (lv_at hl 0 rfl) ?_
  refine lv_aload_n hx hb dX1_copyFrom_45 rfl (lv_at hl 1 rfl) ?_
  refine r_gI C0 hW (ms_lt hj2 14 (by decide)) (ceX_m hj2 G 14 _ _) rfl hiX1 (k := 4) (by decide) kf_X1_28 rfl rfl rfl dX1_copyFrom_46 (fun z5 (hz5 : z5 = gN (w4 j2) 14 4) rz5 => ?_)
  have rz5a := rz5.1
  have rz5b := rz5.2
  try simp (decide := true) only [hw4, hw3, hw2, hw1, up_s, gA_sF, gN_sF, gA_sA, gN_sA, gA_sS, gN_sS, if_true, if_false, true_and, and_true, false_and, and_false, hun] at hz5
  refine r_pI C0 hW (ms_lt hj 14 (by decide)) (ceX_m hj G 14 _ _) rfl hiX1 tyX1 tyX1_ok nmX1 (k := 4) (v := iI z5) (by decide) kf_X1_28 rfl rfl rfl (tyX1_ok 4 (by decide)) rfl rfl (by simp) (ceX_m hj G 14 _ _) dX1_copyFrom_49 (fun H1 locs1 hW => ?_)
  obtain ⟨w6, hw6⟩ : ∃ wq9 : gW, wq9 = up w4 j (sS (w4 j) 14 4 (iI z5)) := ⟨_, rfl⟩
  rw [← hw6] at hW
  refine lv_aload_n hx hb dX1_copyFrom_52 rfl (lv_at hl 0 rfl) ?_
  refine lv_aload_n hx hb dX1_copyFrom_53 rfl (lv_at hl 1 rfl) ?_
  refine r_gI C0 hW (ms_lt hj2 14 (by decide)) (ceX_m hj2 G 14 _ _) rfl hiX1 (k := 5) (by decide) kf_X1_32 rfl rfl rfl dX1_copyFrom_54 (fun z7 (hz7 : z7 = gN (w6 j2) 14 5) rz7 => ?_)
  have rz7a := rz7.1
  have rz7b := rz7.2
  try simp (decide := true) only [hw6, hw4, hw3, hw2, hw1, up_s, gA_sF, gN_sF, gA_sA, gN_sA, gA_sS, gN_sS, if_true, if_false, true_and, and_true, false_and, and_false, hun] at hz7
  refine r_pI C0 hW (ms_lt hj 14 (by decide)) (ceX_m hj G 14 _ _) rfl hiX1 tyX1 tyX1_ok nmX1 (k := 5) (v := iI z7) (by decide) kf_X1_32 rfl rfl rfl (tyX1_ok 5 (by decide)) rfl rfl (by simp) (ceX_m hj G 14 _ _) dX1_copyFrom_57 (fun H1 locs1 hW => ?_)
  obtain ⟨w8, hw8⟩ : ∃ wq9 : gW, wq9 = up w6 j (sS (w6 j) 14 5 (iI z7)) := ⟨_, rfl⟩
  rw [← hw8] at hW
  exact r_vret C0 hW (by unfold po_X1_copyFrom; simp only [hw8, hw6, hw4, hw3, hw2, hw1, up_up, up_s, hun, disC, hz5, hz7, gN_i]) dX1_copyFrom_60
