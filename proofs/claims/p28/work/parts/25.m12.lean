/-- X5_type: its end -/
def po_X5_type (w : gW) (b0 : Nat) (b1 : Nat) (b2 : Nat) (b3 : Nat) (v : Int) : Int → gW → Prop := fun z w1 => ((gN (w 9) 0 1 = 60) ∧ (z = -3) ∧ (w1 = w)) ∨ ((gN (w 9) 0 1 < 60) ∧ (z = gN (w 9) 0 1 + 1) ∧ (w1 = up w 9 (appM (w 9) v)))
theorem hdV_X5_type : yX5_type.cls = RX5 ∧ yX5_type.cls ≠ "java/lang/invoke/MethodHandle" ∧ yX5_type.cls ≠ "java/lang/invoke/VarHandle" ∧ (parseMethodDescriptor yX5_type.desc).map (fun d => d.parameters.length) = some 1 := by decide +kernel
set_option maxHeartbeats 4000000 in
set_option maxRecDepth 100000 in
theorem c_X5_type (l : Launch) (G : gG) (w : gW) {b0 : Nat} {b1 : Nat} {b2 : Nat} {b3 : Nat} (hO : okW w b0 b1 b2 b3) (v : Int) (rv : inR v) (hnar : vp_nar .char (iI v) = iI v) : mI l G yX5_type (wU yX5_type cX5_type 2 (some .int)) (rmL 1 21) [.ref (ad G 0 0), .int (iI v)] w (po_X5_type w b0 b1 b2 b3 v) := by
  refine mI_of (by decide +kernel) (Nat.le_of_ble_eq_true rfl) (fun p e s m args below meth c ls C0 hW hl => ?_)
  have hl : lv_has ls 2 [(0, .ref (ad G 0 0)), (1, .int (iI v))] := hl
  have hx := C0.hx
  have hb := C0.hb
  obtain ⟨hp4, hh, hwfs, hs4, hl9⟩ := id hO
  obtain ⟨q0, q1, q2, q3, n1, n2, n3, n4, n5, n6⟩ := id hp4
  have hwf := hwfs 1 ms_1
  obtain ⟨⟨hs1, hs2⟩, ⟨hd1, hd2, hd3⟩, hwet, -, -, -, ⟨hr1, hr2⟩, ⟨hc1, hc2⟩, hds⟩ := id hwf
  have hu1 : ∀ (w : gW) (M : gM), up w 4 M 1 = w 1 := fun w M => up_n w M (by decide)
  have hu31 : ∀ (w : gW) (M : gM), up w b3 M 1 = w 1 := fun w M => up_n w M (by omega)
  have hu91 : ∀ (w : gW) (M : gM), up w 9 M 1 = w 1 := fun w M => up_n w M (by decide)
  have hu14 : ∀ (w : gW) (M : gM), up w 1 M 4 = w 4 := fun w M => up_n w M (by decide)
  have hu94 : ∀ (w : gW) (M : gM), up w 9 M 4 = w 4 := fun w M => up_n w M (by decide)
  have hu19 : ∀ (w : gW) (M : gM), up w 1 M 9 = w 9 := fun w M => up_n w M (by decide)
  have hu49 : ∀ (w : gW) (M : gM), up w 4 M 9 = w 9 := fun w M => up_n w M (by decide)
  have hu39 : ∀ (w : gW) (M : gM), up w b3 M 9 = w 9 := fun w M => up_n w M (by omega)
  have hu42 : ∀ (w : gW) (M : gM), up w 4 M 2 = w 2 := fun w M => up_n w M (by decide)
  have hu32 : ∀ (w : gW) (M : gM), up w b3 M 2 = w 2 := fun w M => up_n w M (by omega)
  have hu20 : ∀ (w : gW) (M : gM), up w 2 M 0 = w 0 := fun w M => up_n w M (by decide)
  have hu21 : ∀ (w : gW) (M : gM), up w 2 M 1 = w 1 := fun w M => up_n w M (by decide)
  have hu31b : ∀ (w : gW) (M : gM), up w 3 M 1 = w 1 := fun w M => up_n w M (by decide)
  have hu01 : ∀ (w : gW) (M : gM), up w 0 M 1 = w 1 := fun w M => up_n w M (by decide)
  have hu24 : ∀ (w : gW) (M : gM), up w 2 M 4 = w 4 := fun w M => up_n w M (by decide)
  have hu34 : ∀ (w : gW) (M : gM), up w 3 M 4 = w 4 := fun w M => up_n w M (by decide)
  refine lv_aload_n hx hb dX5_type_0 rfl (lv_at hl 0 rfl) ?_
  refine r_gR C0 hW (show 0 < 11 ∧ 0 < bs 0 from ⟨by decide, by decide⟩) rfl rfl hiX5 (k := 4) (by decide) kf_X5_32 rfl rfl rfl dX5_type_1 ?_
  refine lv_iload_n hx hb dX5_type_4 rfl (lv_at hl 1 rfl) ?_
  refine k_Vi (j := 9) (k0 := 0) C0 hW (c_X0_append l G w (by omega) v rv (hnar)) km_X5_150 ki_X0_append ke_X0_append kn_X0 kc_X0_append rfl hdV_X0_append ⟨by decide, by decide⟩ (show 9 < 11 ∧ 0 < bs 9 from ⟨by decide, by decide⟩) rfl rfl rfl hl.1 rfl (Nat.le_of_ble_eq_true rfl) dX5_type_5 (fun z1 w1 H1 locs1 rz1 hp1 hW => ?_)
  rcases hp1 with ⟨e1, hp1, hq1⟩ | ⟨e1, hp1, hw1⟩
  · subst e1
    subst hq1
    refine r_if_eq (tgt := 21) hx hb ⟨by omega, by omega⟩ dX5_type_8 (by decide) (fun _ => ?_) (fun q => absurd q (by decide))
    refine r_bipush hx hb dX5_type_21 (by decide) ?_
    exact r_iret C0 hW ⟨by omega, by omega⟩ (by first | exact Or.inl (⟨(by first | assumption | omega | trivial), (by first | omega | assumption | (simp only [id])), (rfl)⟩)) dX5_type_23
  · subst e1
    refine r_if_eq (tgt := 21) hx hb ⟨by omega, by omega⟩ dX5_type_8 (by decide) (fun q => absurd q (by decide)) (fun _ => ?_)
    refine lv_aload_n hx hb dX5_type_11 rfl (lv_at hl 0 rfl) ?_
    refine r_gR C0 hW (show 0 < 11 ∧ 0 < bs 0 from ⟨by decide, by decide⟩) rfl rfl hiX5 (k := 4) (by decide) kf_X5_32 rfl rfl rfl dX5_type_12 ?_
    refine r_gI C0 hW (show 9 < 11 ∧ 0 < bs 9 from ⟨by decide, by decide⟩) rfl rfl hiX0 (k := 1) (by decide) kf_X5_154 rfl rfl rfl dX5_type_15 (fun z2 (hz2 : z2 = gN (w1 9) 0 1) rz2 => ?_)
    have rz2a := rz2.1
    have rz2b := rz2.2
    try simp (decide := true) only [hw1, up_s, gA_sF, gN_sF, gA_sA, gN_sA, gA_sS, gN_sS, if_true, if_false, true_and, and_true, false_and, and_false, hu1, hu31, hu91, hu14, hu94, hu19, hu49, hu39, hu42, hu32, hu20, hu21, hu31b, hu01, hu24, hu34] at hz2
    refine lv_goto (tgt := 23) hx hb dX5_type_18 (by decide) ?_
    exact r_iret C0 hW rz2 (by first | exact Or.inl (⟨(by first | assumption | omega | trivial), (by first | omega | assumption | (simp only [hz2])), (by omega)⟩) | exact Or.inr (⟨(by first | assumption | omega | trivial), (by rw [hz2]; exact iI_t (z := gN (w 9) 0 1 + 1) ⟨by omega, by omega⟩), (by simp only [hw1])⟩)) dX5_type_23

/-- X5_clearText: its end -/
def po_X5_clearText (w : gW) (b0 : Nat) (b1 : Nat) (b2 : Nat) (b3 : Nat) : Int → gW → Prop := fun z w1 => ((True) ∧ (z = gN (w 9) 0 1) ∧ (w1 = up w 9 (sS (w 9) 0 1 (iI 0))))
theorem hdV_X5_clearText : yX5_clearText.cls = RX5 ∧ yX5_clearText.cls ≠ "java/lang/invoke/MethodHandle" ∧ yX5_clearText.cls ≠ "java/lang/invoke/VarHandle" ∧ (parseMethodDescriptor yX5_clearText.desc).map (fun d => d.parameters.length) = some 0 := by decide +kernel
set_option maxHeartbeats 4000000 in
set_option maxRecDepth 100000 in
theorem c_X5_clearText (l : Launch) (G : gG) (w : gW) {b0 : Nat} {b1 : Nat} {b2 : Nat} {b3 : Nat} (hO : okW w b0 b1 b2 b3) : mI l G yX5_clearText (wU yX5_clearText cX5_clearText 2 (some .int)) (rmL 0 0) [.ref (ad G 0 0)] w (po_X5_clearText w b0 b1 b2 b3) := by
  refine mI_of (by decide +kernel) (Nat.le_of_ble_eq_true rfl) (fun p e s m args below meth c ls C0 hW hl => ?_)
  have hl : lv_has ls 2 [(0, .ref (ad G 0 0))] := hl
  have hx := C0.hx
  have hb := C0.hb
  obtain ⟨hp4, hh, hwfs, hs4, hl9⟩ := id hO
  obtain ⟨q0, q1, q2, q3, n1, n2, n3, n4, n5, n6⟩ := id hp4
  have hwf := hwfs 1 ms_1
  obtain ⟨⟨hs1, hs2⟩, ⟨hd1, hd2, hd3⟩, hwet, -, -, -, ⟨hr1, hr2⟩, ⟨hc1, hc2⟩, hds⟩ := id hwf
  have hu1 : ∀ (w : gW) (M : gM), up w 4 M 1 = w 1 := fun w M => up_n w M (by decide)
  have hu31 : ∀ (w : gW) (M : gM), up w b3 M 1 = w 1 := fun w M => up_n w M (by omega)
  have hu91 : ∀ (w : gW) (M : gM), up w 9 M 1 = w 1 := fun w M => up_n w M (by decide)
  have hu14 : ∀ (w : gW) (M : gM), up w 1 M 4 = w 4 := fun w M => up_n w M (by decide)
  have hu94 : ∀ (w : gW) (M : gM), up w 9 M 4 = w 4 := fun w M => up_n w M (by decide)
  have hu19 : ∀ (w : gW) (M : gM), up w 1 M 9 = w 9 := fun w M => up_n w M (by decide)
  have hu49 : ∀ (w : gW) (M : gM), up w 4 M 9 = w 9 := fun w M => up_n w M (by decide)
  have hu39 : ∀ (w : gW) (M : gM), up w b3 M 9 = w 9 := fun w M => up_n w M (by omega)
  have hu42 : ∀ (w : gW) (M : gM), up w 4 M 2 = w 2 := fun w M => up_n w M (by decide)
  have hu32 : ∀ (w : gW) (M : gM), up w b3 M 2 = w 2 := fun w M => up_n w M (by omega)
  have hu20 : ∀ (w : gW) (M : gM), up w 2 M 0 = w 0 := fun w M => up_n w M (by decide)
  have hu21 : ∀ (w : gW) (M : gM), up w 2 M 1 = w 1 := fun w M => up_n w M (by decide)
  have hu31b : ∀ (w : gW) (M : gM), up w 3 M 1 = w 1 := fun w M => up_n w M (by decide)
  have hu01 : ∀ (w : gW) (M : gM), up w 0 M 1 = w 1 := fun w M => up_n w M (by decide)
  have hu24 : ∀ (w : gW) (M : gM), up w 2 M 4 = w 4 := fun w M => up_n w M (by decide)
  have hu34 : ∀ (w : gW) (M : gM), up w 3 M 4 = w 4 := fun w M => up_n w M (by decide)
  refine lv_aload_n hx hb dX5_clearText_0 rfl (lv_at hl 0 rfl) ?_
  refine r_gR C0 hW (show 0 < 11 ∧ 0 < bs 0 from ⟨by decide, by decide⟩) rfl rfl hiX5 (k := 4) (by decide) kf_X5_32 rfl rfl rfl dX5_clearText_1 ?_
  refine r_gI C0 hW (show 9 < 11 ∧ 0 < bs 9 from ⟨by decide, by decide⟩) rfl rfl hiX0 (k := 1) (by decide) kf_X5_154 rfl rfl rfl dX5_clearText_4 (fun z1 (hz1 : z1 = gN (w 9) 0 1) rz1 => ?_)
  have rz1a := rz1.1
  have rz1b := rz1.2
  refine lv_istore_n (lv' := [(1, .int (iI z1)), (0, .ref (ad G 0 0))]) hx hb dX5_clearText_7 rfl hl (by decide) rfl (fun ls hl => ?_)
  refine lv_aload_n hx hb dX5_clearText_8 rfl (lv_at hl 1 rfl) ?_
  refine r_gR C0 hW (show 0 < 11 ∧ 0 < bs 0 from ⟨by decide, by decide⟩) rfl rfl hiX5 (k := 4) (by decide) kf_X5_32 rfl rfl rfl dX5_clearText_9 ?_
  refine r_iconst hx hb dX5_clearText_12 ?_
  refine r_pI C0 hW (show 9 < 11 ∧ 0 < bs 9 from ⟨by decide, by decide⟩) rfl rfl hiX0 tyX0 tyX0_ok nmX0 (k := 1) (v := iI 0) (by decide) kf_X5_154 rfl rfl rfl (tyX0_ok 1 (by decide)) rfl rfl (by simp) rfl dX5_clearText_13 (fun H1 locs1 hW => ?_)
  obtain ⟨w2, hw2⟩ : ∃ wq9 : gW, wq9 = up w 9 (sS (w 9) 0 1 (iI 0)) := ⟨_, rfl⟩
  rw [← hw2] at hW
  refine lv_iload_n hx hb dX5_clearText_16 rfl (lv_at hl 0 rfl) ?_
  exact r_iret C0 hW rz1 (by first | exact ⟨(by first | assumption | omega | trivial), (by first | omega | assumption | (simp only [hz1])), (by simp (decide := true) only [hw2, recW, up_up, up_s, gA_sF, gN_sF, gA_sA, gN_sA, gA_sS, gN_sS, if_true, if_false, true_and, and_true, false_and, and_false, hu1, hu31, hu91, hu14, hu94, hu19, hu49, hu39, hu42, hu32, hu20, hu21, hu31b, hu01, hu24, hu34, hz1])⟩) dX5_clearText_17

/-- X5_undo: its end -/
def po_X5_undo (w : gW) (b0 : Nat) (b1 : Nat) (b2 : Nat) (b3 : Nat) : Int → gW → Prop := fun z w1 => ((gN (w 4) 0 4 = 0) ∧ (z = -5) ∧ (w1 = w)) ∨ ((0 < gN (w 4) 0 4) ∧ (z = gN (w 4) 0 4 - 1) ∧ (w1 = up (up w 1 (w b0)) 4 (tbM (w 4) b0 b1 b2 b3)))
theorem hdV_X5_undo : yX5_undo.cls = RX5 ∧ yX5_undo.cls ≠ "java/lang/invoke/MethodHandle" ∧ yX5_undo.cls ≠ "java/lang/invoke/VarHandle" ∧ (parseMethodDescriptor yX5_undo.desc).map (fun d => d.parameters.length) = some 0 := by decide +kernel
set_option maxHeartbeats 4000000 in
set_option maxRecDepth 100000 in
theorem c_X5_undo (l : Launch) (G : gG) (w : gW) {b0 : Nat} {b1 : Nat} {b2 : Nat} {b3 : Nat} (hO : okW w b0 b1 b2 b3) : mI l G yX5_undo (wU yX5_undo cX5_undo 1 (some .int)) (rmL 5 103) [.ref (ad G 0 0)] w (po_X5_undo w b0 b1 b2 b3) := by
  refine mI_of (by decide +kernel) (Nat.le_of_ble_eq_true rfl) (fun p e s m args below meth c ls C0 hW hl => ?_)
  have hl : lv_has ls 1 [(0, .ref (ad G 0 0))] := hl
  have hx := C0.hx
  have hb := C0.hb
  obtain ⟨hp4, hh, hwfs, hs4, hl9⟩ := id hO
  obtain ⟨q0, q1, q2, q3, n1, n2, n3, n4, n5, n6⟩ := id hp4
  have hwf := hwfs 1 ms_1
  obtain ⟨⟨hs1, hs2⟩, ⟨hd1, hd2, hd3⟩, hwet, -, -, -, ⟨hr1, hr2⟩, ⟨hc1, hc2⟩, hds⟩ := id hwf
  have hu1 : ∀ (w : gW) (M : gM), up w 4 M 1 = w 1 := fun w M => up_n w M (by decide)
  have hu31 : ∀ (w : gW) (M : gM), up w b3 M 1 = w 1 := fun w M => up_n w M (by omega)
  have hu91 : ∀ (w : gW) (M : gM), up w 9 M 1 = w 1 := fun w M => up_n w M (by decide)
  have hu14 : ∀ (w : gW) (M : gM), up w 1 M 4 = w 4 := fun w M => up_n w M (by decide)
  have hu94 : ∀ (w : gW) (M : gM), up w 9 M 4 = w 4 := fun w M => up_n w M (by decide)
  have hu19 : ∀ (w : gW) (M : gM), up w 1 M 9 = w 9 := fun w M => up_n w M (by decide)
  have hu49 : ∀ (w : gW) (M : gM), up w 4 M 9 = w 9 := fun w M => up_n w M (by decide)
  have hu39 : ∀ (w : gW) (M : gM), up w b3 M 9 = w 9 := fun w M => up_n w M (by omega)
  have hu42 : ∀ (w : gW) (M : gM), up w 4 M 2 = w 2 := fun w M => up_n w M (by decide)
  have hu32 : ∀ (w : gW) (M : gM), up w b3 M 2 = w 2 := fun w M => up_n w M (by omega)
  have hu20 : ∀ (w : gW) (M : gM), up w 2 M 0 = w 0 := fun w M => up_n w M (by decide)
  have hu21 : ∀ (w : gW) (M : gM), up w 2 M 1 = w 1 := fun w M => up_n w M (by decide)
  have hu31b : ∀ (w : gW) (M : gM), up w 3 M 1 = w 1 := fun w M => up_n w M (by decide)
  have hu01 : ∀ (w : gW) (M : gM), up w 0 M 1 = w 1 := fun w M => up_n w M (by decide)
  have hu24 : ∀ (w : gW) (M : gM), up w 2 M 4 = w 4 := fun w M => up_n w M (by decide)
  have hu34 : ∀ (w : gW) (M : gM), up w 3 M 4 = w 4 := fun w M => up_n w M (by decide)
  refine lv_aload_n hx hb dX5_undo_0 rfl (lv_at hl 0 rfl) ?_
  refine r_gR C0 hW (show 0 < 11 ∧ 0 < bs 0 from ⟨by decide, by decide⟩) rfl rfl hiX5 (k := 3) (by decide) kf_X5_25 rfl rfl rfl dX5_undo_1 ?_
  refine r_gI C0 hW (show 4 < 11 ∧ 0 < bs 4 from ⟨by decide, by decide⟩) rfl rfl hiX2 (k := 4) (by decide) kf_X5_157 rfl rfl rfl dX5_undo_4 (fun z1 (hz1 : z1 = gN (w 4) 0 4) rz1 => ?_)
  have rz1a := rz1.1
  have rz1b := rz1.2
  refine r_if_ne (tgt := 13) hx hb rz1 dX5_undo_7 (by decide) (fun c2 => ?_) (fun c2 => ?_)
  · refine lv_aload_n hx hb dX5_undo_13 rfl (lv_at hl 0 rfl) ?_
    refine r_gR C0 hW (show 0 < 11 ∧ 0 < bs 0 from ⟨by decide, by decide⟩) rfl rfl hiX5 (k := 3) (by decide) kf_X5_25 rfl rfl rfl dX5_undo_14 ?_
    refine lv_aload_n hx hb dX5_undo_17 rfl (lv_at hl 0 rfl) ?_
    refine r_gR C0 hW (show 0 < 11 ∧ 0 < bs 0 from ⟨by decide, by decide⟩) rfl rfl hiX5 (k := 0) (by decide) kf_X5_12 rfl rfl rfl dX5_undo_18 ?_
    refine k_Vv (j := 4) (k0 := 0) C0 hW (c_X2_takeBack l G w (hp4) hh (hwfs b0 (ms_b q0)) (by omega)) km_X5_160 ki_X2_takeBack ke_X2_takeBack kn_X2 kc_X2_takeBack rfl hdV_X2_takeBack ⟨by decide, by decide⟩ (show 4 < 11 ∧ 0 < bs 4 from ⟨by decide, by decide⟩) rfl rfl rfl hl.1 rfl (Nat.le_of_ble_eq_true rfl) dX5_undo_21 (fun w3 H1 locs1 hp3 hW => ?_)
    have hw3 : w3 = _ := hp3
    refine lv_aload_n hx hb dX5_undo_24 rfl (lv_at hl 0 rfl) ?_
    refine r_gR C0 hW (show 0 < 11 ∧ 0 < bs 0 from ⟨by decide, by decide⟩) rfl rfl hiX5 (k := 3) (by decide) kf_X5_25 rfl rfl rfl dX5_undo_25 ?_
    refine r_gI C0 hW (show 4 < 11 ∧ 0 < bs 4 from ⟨by decide, by decide⟩) rfl rfl hiX2 (k := 4) (by decide) kf_X5_157 rfl rfl rfl dX5_undo_28 (fun z4 (hz4 : z4 = gN (w3 4) 0 4) rz4 => ?_)
    have rz4a := rz4.1
    have rz4b := rz4.2
    try simp (decide := true) only [hw3, up_s, gA_sF, gN_sF, gA_sA, gN_sA, gA_sS, gN_sS, if_true, if_false, true_and, and_true, false_and, and_false, hu1, hu31, hu91, hu14, hu94, hu19, hu49, hu39, hu42, hu32, hu20, hu21, hu31b, hu01, hu24, hu34] at hz4
    exact r_iret C0 hW rz4 (by first | exact Or.inl (⟨(by first | assumption | omega | trivial), (by first | omega | assumption | (simp only [hz1, hz4])), (by omega)⟩) | exact Or.inr (⟨(by first | assumption | omega | trivial), (by rw [hz4]; exact iI_t (z := gN (w 4) 0 4 - 1) ⟨by omega, by omega⟩), (by simp only [hw3])⟩)) dX5_undo_31
  · refine r_bipush hx hb dX5_undo_10 (by decide) ?_
    exact r_iret C0 hW ⟨by omega, by omega⟩ (by first | exact Or.inl (⟨(by first | assumption | omega | trivial), (by first | omega | assumption | (simp only [hz1])), (rfl)⟩)) dX5_undo_12

/-- X5_keep: its end -/
def po_X5_keep (w : gW) (b0 : Nat) (b1 : Nat) (b2 : Nat) (b3 : Nat) : Int → gW → Prop := fun z w1 => ((True) ∧ (z = cntI (pLy (w 1)) (gN (w 1) 7 6)) ∧ (w1 = up (up w 2 (w 1)) 0 (sS (w 0) 0 5 (iI 1))))
theorem hdV_X5_keep : yX5_keep.cls = RX5 ∧ yX5_keep.cls ≠ "java/lang/invoke/MethodHandle" ∧ yX5_keep.cls ≠ "java/lang/invoke/VarHandle" ∧ (parseMethodDescriptor yX5_keep.desc).map (fun d => d.parameters.length) = some 0 := by decide +kernel
set_option maxHeartbeats 4000000 in
set_option maxRecDepth 100000 in
theorem c_X5_keep (l : Launch) (G : gG) (w : gW) {b0 : Nat} {b1 : Nat} {b2 : Nat} {b3 : Nat} (hO : okW w b0 b1 b2 b3) : mI l G yX5_keep (wU yX5_keep cX5_keep 1 (some .int)) (rmL 4 81) [.ref (ad G 0 0)] w (po_X5_keep w b0 b1 b2 b3) := by
  refine mI_of (by decide +kernel) (Nat.le_of_ble_eq_true rfl) (fun p e s m args below meth c ls C0 hW hl => ?_)
  have hl : lv_has ls 1 [(0, .ref (ad G 0 0))] := hl
  have hx := C0.hx
  have hb := C0.hb
  obtain ⟨hp4, hh, hwfs, hs4, hl9⟩ := id hO
  obtain ⟨q0, q1, q2, q3, n1, n2, n3, n4, n5, n6⟩ := id hp4
  have hwf := hwfs 1 ms_1
  obtain ⟨⟨hs1, hs2⟩, ⟨hd1, hd2, hd3⟩, hwet, -, -, -, ⟨hr1, hr2⟩, ⟨hc1, hc2⟩, hds⟩ := id hwf
  have hu1 : ∀ (w : gW) (M : gM), up w 4 M 1 = w 1 := fun w M => up_n w M (by decide)
  have hu31 : ∀ (w : gW) (M : gM), up w b3 M 1 = w 1 := fun w M => up_n w M (by omega)
  have hu91 : ∀ (w : gW) (M : gM), up w 9 M 1 = w 1 := fun w M => up_n w M (by decide)
  have hu14 : ∀ (w : gW) (M : gM), up w 1 M 4 = w 4 := fun w M => up_n w M (by decide)
  have hu94 : ∀ (w : gW) (M : gM), up w 9 M 4 = w 4 := fun w M => up_n w M (by decide)
  have hu19 : ∀ (w : gW) (M : gM), up w 1 M 9 = w 9 := fun w M => up_n w M (by decide)
  have hu49 : ∀ (w : gW) (M : gM), up w 4 M 9 = w 9 := fun w M => up_n w M (by decide)
  have hu39 : ∀ (w : gW) (M : gM), up w b3 M 9 = w 9 := fun w M => up_n w M (by omega)
  have hu42 : ∀ (w : gW) (M : gM), up w 4 M 2 = w 2 := fun w M => up_n w M (by decide)
  have hu32 : ∀ (w : gW) (M : gM), up w b3 M 2 = w 2 := fun w M => up_n w M (by omega)
  have hu20 : ∀ (w : gW) (M : gM), up w 2 M 0 = w 0 := fun w M => up_n w M (by decide)
  have hu21 : ∀ (w : gW) (M : gM), up w 2 M 1 = w 1 := fun w M => up_n w M (by decide)
  have hu31b : ∀ (w : gW) (M : gM), up w 3 M 1 = w 1 := fun w M => up_n w M (by decide)
  have hu01 : ∀ (w : gW) (M : gM), up w 0 M 1 = w 1 := fun w M => up_n w M (by decide)
  have hu24 : ∀ (w : gW) (M : gM), up w 2 M 4 = w 4 := fun w M => up_n w M (by decide)
  have hu34 : ∀ (w : gW) (M : gM), up w 3 M 4 = w 4 := fun w M => up_n w M (by decide)
  refine lv_aload_n hx hb dX5_keep_0 rfl (lv_at hl 0 rfl) ?_
  refine r_gR C0 hW (show 0 < 11 ∧ 0 < bs 0 from ⟨by decide, by decide⟩) rfl rfl hiX5 (k := 1) (by decide) kf_X5_16 rfl rfl rfl dX5_keep_1 ?_
  refine lv_aload_n hx hb dX5_keep_4 rfl (lv_at hl 0 rfl) ?_
  refine r_gR C0 hW (show 0 < 11 ∧ 0 < bs 0 from ⟨by decide, by decide⟩) rfl rfl hiX5 (k := 0) (by decide) kf_X5_12 rfl rfl rfl dX5_keep_5 ?_
  refine k_Vv (j := 2) (k0 := 0) C0 hW (c_X3_copyFrom l G w ms_2 ms_1 (by omega) hwf) km_X5_163 ki_X3_copyFrom ke_X3_copyFrom kn_X3 kc_X3_copyFrom rfl hdV_X3_copyFrom ⟨by decide, by decide⟩ (show 2 < 11 ∧ 0 < bs 2 from ⟨by decide, by decide⟩) (ceX_m ms_2 G 0 _ _) rfl rfl hl.1 rfl (Nat.le_of_ble_eq_true rfl) dX5_keep_8 (fun w1 H1 locs1 hp1 hW => ?_)
  have hw1 : w1 = _ := hp1
  refine lv_aload_n hx hb dX5_keep_11 rfl (lv_at hl 0 rfl) ?_
  refine r_iconst hx hb dX5_keep_12 ?_
  refine r_pI C0 hW (show 0 < 11 ∧ 0 < bs 0 from ⟨by decide, by decide⟩) rfl rfl hiX5 tyX5 tyX5_ok nmX5 (k := 5) (v := iI 1) (by decide) kf_X5_36 rfl rfl rfl (tyX5_ok 5 (by decide)) (iI_bool (by first | exact Or.inl rfl | exact Or.inr rfl | omega)) (iI_fitz (by first | exact Or.inl rfl | exact Or.inr rfl | omega)) (by simp) rfl dX5_keep_13 (fun H1 locs1 hW => ?_)
  obtain ⟨w2, hw2⟩ : ∃ wq9 : gW, wq9 = up w1 0 (sS (w1 0) 0 5 (iI 1)) := ⟨_, rfl⟩
  rw [← hw2] at hW
  refine lv_aload_n hx hb dX5_keep_16 rfl (lv_at hl 0 rfl) ?_
  refine r_gR C0 hW (show 0 < 11 ∧ 0 < bs 0 from ⟨by decide, by decide⟩) rfl rfl hiX5 (k := 0) (by decide) kf_X5_12 rfl rfl rfl dX5_keep_17 ?_
  refine r_gR C0 hW (show 1 < 11 ∧ 0 < bs 1 from ⟨by decide, by decide⟩) (ceX_m ms_1 G 0 _ _) rfl hiX3 (k := 6) (by decide) kf_X5_80 rfl rfl rfl dX5_keep_20 ?_
  refine k_Vi (j := 1) (k0 := 7) C0 hW (c_X4_countLying l G w2 ms_1 (by simp only [hw2, hw1, up_up, up_s, hu1, hu31, hu91, hu14, hu94, hu19, hu49, hu39, hu42, hu32, hu20, hu21, hu31b, hu01, hu24, hu34]; exact hwf)) km_X5_166 ki_X4_countLying ke_X4_countLying kn_X4 kc_X4_countLying rfl hdV_X4_countLying ⟨by decide, by decide⟩ (show 1 < 11 ∧ 7 < bs 1 from ⟨by decide, by decide⟩) (ceX_m ms_1 G 7 _ _) rfl rfl hl.1 rfl (Nat.le_of_ble_eq_true rfl) dX5_keep_23 (fun z3 w3 H1 locs1 rz3 hp3 hW => ?_)
  obtain ⟨hp3, hq3⟩ := hp3
  subst hq3
  have rz3a := rz3.1
  have rz3b := rz3.2
  try simp (decide := true) only [hw2, hw1, up_s, gA_sF, gN_sF, gA_sA, gN_sA, gA_sS, gN_sS, if_true, if_false, true_and, and_true, false_and, and_false, hu1, hu31, hu91, hu14, hu94, hu19, hu49, hu39, hu42, hu32, hu20, hu21, hu31b, hu01, hu24, hu34] at hp3
  exact r_iret C0 hW rz3 (by first | exact ⟨(by first | assumption | omega | trivial), (by first | omega | assumption | (simp only [id])), (by simp (decide := true) only [hw2, hw1, recW, up_up, up_s, gA_sF, gN_sF, gA_sA, gN_sA, gA_sS, gN_sS, if_true, if_false, true_and, and_true, false_and, and_false, hu1, hu31, hu91, hu14, hu94, hu19, hu49, hu39, hu42, hu32, hu20, hu21, hu31b, hu01, hu24, hu34, id])⟩) dX5_keep_26

/-- X5_restore: its end -/
def po_X5_restore (w : gW) (b0 : Nat) (b1 : Nat) (b2 : Nat) (b3 : Nat) : Int → gW → Prop := fun z w1 => ((gN (w 0) 0 5 = 0) ∧ (z = -5) ∧ (w1 = w)) ∨ ((¬ gN (w 0) 0 5 = 0) ∧ (z = cntI (pLy (w 2)) (gN (w 2) 7 6)) ∧ (w1 = up (recW w b0 b1 b2 b3) 1 (w 2)))
theorem hdV_X5_restore : yX5_restore.cls = RX5 ∧ yX5_restore.cls ≠ "java/lang/invoke/MethodHandle" ∧ yX5_restore.cls ≠ "java/lang/invoke/VarHandle" ∧ (parseMethodDescriptor yX5_restore.desc).map (fun d => d.parameters.length) = some 0 := by decide +kernel
set_option maxHeartbeats 4000000 in
set_option maxRecDepth 100000 in
theorem c_X5_restore (l : Launch) (G : gG) (w : gW) {b0 : Nat} {b1 : Nat} {b2 : Nat} {b3 : Nat} (hO : okW w b0 b1 b2 b3) : mI l G yX5_restore (wU yX5_restore cX5_restore 1 (some .int)) (rmL 5 103) [.ref (ad G 0 0)] w (po_X5_restore w b0 b1 b2 b3) := by
  refine mI_of (by decide +kernel) (Nat.le_of_ble_eq_true rfl) (fun p e s m args below meth c ls C0 hW hl => ?_)
  have hl : lv_has ls 1 [(0, .ref (ad G 0 0))] := hl
  have hx := C0.hx
  have hb := C0.hb
  obtain ⟨hp4, hh, hwfs, hs4, hl9⟩ := id hO
  obtain ⟨q0, q1, q2, q3, n1, n2, n3, n4, n5, n6⟩ := id hp4
  have hwf := hwfs 1 ms_1
  obtain ⟨⟨hs1, hs2⟩, ⟨hd1, hd2, hd3⟩, hwet, -, -, -, ⟨hr1, hr2⟩, ⟨hc1, hc2⟩, hds⟩ := id hwf
  have hu1 : ∀ (w : gW) (M : gM), up w 4 M 1 = w 1 := fun w M => up_n w M (by decide)
  have hu31 : ∀ (w : gW) (M : gM), up w b3 M 1 = w 1 := fun w M => up_n w M (by omega)
  have hu91 : ∀ (w : gW) (M : gM), up w 9 M 1 = w 1 := fun w M => up_n w M (by decide)
  have hu14 : ∀ (w : gW) (M : gM), up w 1 M 4 = w 4 := fun w M => up_n w M (by decide)
  have hu94 : ∀ (w : gW) (M : gM), up w 9 M 4 = w 4 := fun w M => up_n w M (by decide)
  have hu19 : ∀ (w : gW) (M : gM), up w 1 M 9 = w 9 := fun w M => up_n w M (by decide)
  have hu49 : ∀ (w : gW) (M : gM), up w 4 M 9 = w 9 := fun w M => up_n w M (by decide)
  have hu39 : ∀ (w : gW) (M : gM), up w b3 M 9 = w 9 := fun w M => up_n w M (by omega)
  have hu42 : ∀ (w : gW) (M : gM), up w 4 M 2 = w 2 := fun w M => up_n w M (by decide)
  have hu32 : ∀ (w : gW) (M : gM), up w b3 M 2 = w 2 := fun w M => up_n w M (by omega)
  have hu20 : ∀ (w : gW) (M : gM), up w 2 M 0 = w 0 := fun w M => up_n w M (by decide)
  have hu21 : ∀ (w : gW) (M : gM), up w 2 M 1 = w 1 := fun w M => up_n w M (by decide)
  have hu31b : ∀ (w : gW) (M : gM), up w 3 M 1 = w 1 := fun w M => up_n w M (by decide)
  have hu01 : ∀ (w : gW) (M : gM), up w 0 M 1 = w 1 := fun w M => up_n w M (by decide)
  have hu24 : ∀ (w : gW) (M : gM), up w 2 M 4 = w 4 := fun w M => up_n w M (by decide)
  have hu34 : ∀ (w : gW) (M : gM), up w 3 M 4 = w 4 := fun w M => up_n w M (by decide)
  refine lv_aload_n hx hb dX5_restore_0 rfl (lv_at hl 0 rfl) ?_
  refine r_gI C0 hW (show 0 < 11 ∧ 0 < bs 0 from ⟨by decide, by decide⟩) rfl rfl hiX5 (k := 5) (by decide) kf_X5_36 rfl rfl rfl dX5_restore_1 (fun z1 (hz1 : z1 = gN (w 0) 0 5) rz1 => ?_)
  have rz1a := rz1.1
  have rz1b := rz1.2
  refine r_if_ne (tgt := 10) hx hb rz1 dX5_restore_4 (by decide) (fun c2 => ?_) (fun c2 => ?_)
  · refine lv_aload_n hx hb dX5_restore_10 rfl (lv_at hl 0 rfl) ?_
    refine r_gR C0 hW (show 0 < 11 ∧ 0 < bs 0 from ⟨by decide, by decide⟩) rfl rfl hiX5 (k := 3) (by decide) kf_X5_25 rfl rfl rfl dX5_restore_11 ?_
    refine lv_aload_n hx hb dX5_restore_14 rfl (lv_at hl 0 rfl) ?_
    refine r_gR C0 hW (show 0 < 11 ∧ 0 < bs 0 from ⟨by decide, by decide⟩) rfl rfl hiX5 (k := 0) (by decide) kf_X5_12 rfl rfl rfl dX5_restore_15 ?_
    refine k_Vv (j := 4) (k0 := 0) C0 hW (c_X2_record l G w (hp4) hh hwf (by first | omega | (simp (decide := true) only [id, up_s, gA_sF, gN_sF, gA_sA, gN_sA, gA_sS, gN_sS, if_true, if_false, true_and, and_true, false_and, and_false, hu1, hu31, hu91, hu14, hu94, hu19, hu49, hu39, hu42, hu32, hu20, hu21, hu31b, hu01, hu24, hu34]; omega))) km_X5_51 ki_X2_record ke_X2_record kn_X2 kc_X2_record rfl hdV_X2_record ⟨by decide, by decide⟩ (show 4 < 11 ∧ 0 < bs 4 from ⟨by decide, by decide⟩) rfl rfl rfl hl.1 rfl (Nat.le_of_ble_eq_true rfl) dX5_restore_18 (fun w3 H1 locs1 hp3 hW => ?_)
    have hw3 : w3 = _ := hp3
    refine lv_aload_n hx hb dX5_restore_21 rfl (lv_at hl 0 rfl) ?_
    refine r_gR C0 hW (show 0 < 11 ∧ 0 < bs 0 from ⟨by decide, by decide⟩) rfl rfl hiX5 (k := 0) (by decide) kf_X5_12 rfl rfl rfl dX5_restore_22 ?_
    refine lv_aload_n hx hb dX5_restore_25 rfl (lv_at hl 0 rfl) ?_
    refine r_gR C0 hW (show 0 < 11 ∧ 0 < bs 0 from ⟨by decide, by decide⟩) rfl rfl hiX5 (k := 1) (by decide) kf_X5_16 rfl rfl rfl dX5_restore_26 ?_
    refine k_Vv (j := 1) (k0 := 0) C0 hW (c_X3_copyFrom l G w3 ms_1 ms_2 (by omega) (by simp only [hw3, up_up, up_s, gA_sF, gN_sF, gA_sA, gN_sA, gA_sS, gN_sS, if_true, if_false, true_and, and_true, false_and, and_false, hu1, hu31, hu91, hu14, hu94, hu19, hu49, hu39, hu42, hu32, hu20, hu21, hu31b, hu01, hu24, hu34]; exact hwfs 2 ms_2)) km_X5_163 ki_X3_copyFrom ke_X3_copyFrom kn_X3 kc_X3_copyFrom rfl hdV_X3_copyFrom ⟨by decide, by decide⟩ (show 1 < 11 ∧ 0 < bs 1 from ⟨by decide, by decide⟩) (ceX_m ms_1 G 0 _ _) rfl rfl hl.1 rfl (Nat.le_of_ble_eq_true rfl) dX5_restore_29 (fun w4 H1 locs1 hp4 hW => ?_)
    have hw4 : w4 = _ := hp4
    refine lv_aload_n hx hb dX5_restore_32 rfl (lv_at hl 0 rfl) ?_
    refine r_gR C0 hW (show 0 < 11 ∧ 0 < bs 0 from ⟨by decide, by decide⟩) rfl rfl hiX5 (k := 0) (by decide) kf_X5_12 rfl rfl rfl dX5_restore_33 ?_
    refine r_gR C0 hW (show 1 < 11 ∧ 0 < bs 1 from ⟨by decide, by decide⟩) (ceX_m ms_1 G 0 _ _) rfl hiX3 (k := 6) (by decide) kf_X5_80 rfl rfl rfl dX5_restore_36 ?_
    refine k_Vi (j := 1) (k0 := 7) C0 hW (c_X4_countLying l G w4 ms_1 (by simp only [hw4, hw3, up_up, up_s, gA_sF, gN_sF, gA_sA, gN_sA, gA_sS, gN_sS, if_true, if_false, true_and, and_true, false_and, and_false, hu1, hu31, hu91, hu14, hu94, hu19, hu49, hu39, hu42, hu32, hu20, hu21, hu31b, hu01, hu24, hu34]; exact hwfs 2 ms_2)) km_X5_166 ki_X4_countLying ke_X4_countLying kn_X4 kc_X4_countLying rfl hdV_X4_countLying ⟨by decide, by decide⟩ (show 1 < 11 ∧ 7 < bs 1 from ⟨by decide, by decide⟩) (ceX_m ms_1 G 7 _ _) rfl rfl hl.1 rfl (Nat.le_of_ble_eq_true rfl) dX5_restore_39 (fun z5 w5 H1 locs1 rz5 hp5 hW => ?_)
    obtain ⟨hp5, hq5⟩ := hp5
    subst hq5
    have rz5a := rz5.1
    have rz5b := rz5.2
    try simp (decide := true) only [hw4, hw3, up_s, gA_sF, gN_sF, gA_sA, gN_sA, gA_sS, gN_sS, if_true, if_false, true_and, and_true, false_and, and_false, hu1, hu31, hu91, hu14, hu94, hu19, hu49, hu39, hu42, hu32, hu20, hu21, hu31b, hu01, hu24, hu34] at hp5
    exact r_iret C0 hW rz5 (by first | exact Or.inl (⟨(by first | assumption | omega | trivial), (by first | omega | assumption | (simp only [hz1])), (by omega)⟩) | exact Or.inr (⟨(by first | assumption | omega | trivial), (by first | omega | assumption | (simp only [hz1])), (by simp (decide := true) only [hw4, hw3, recW, up_up, up_s, gA_sF, gN_sF, gA_sA, gN_sA, gA_sS, gN_sS, if_true, if_false, true_and, and_true, false_and, and_false, hu1, hu31, hu91, hu14, hu94, hu19, hu49, hu39, hu42, hu32, hu20, hu21, hu31b, hu01, hu24, hu34, hz1])⟩)) dX5_restore_42
  · refine r_bipush hx hb dX5_restore_7 (by decide) ?_
    exact r_iret C0 hW ⟨by omega, by omega⟩ (by first | exact Or.inl (⟨(by first | assumption | omega | trivial), (by first | omega | assumption | (simp only [hz1])), (rfl)⟩) | exact Or.inr (⟨(by first | assumption | omega | trivial), (by first | omega | assumption | (simp only [hz1])), (by omega)⟩)) dX5_restore_9

/-- X5_cart: its end -/
def po_X5_cart (w : gW) (b0 : Nat) (b1 : Nat) (b2 : Nat) (b3 : Nat) (v : Int) : Int → gW → Prop := fun z w1 => ((¬ (0 ≤ v ∧ v ≤ 1)) ∧ (z = -1) ∧ (w1 = w)) ∨ ((0 ≤ v ∧ v ≤ 1) ∧ (z = (gN (w 1) 0 10 + v * 5) % 10) ∧ (w1 = w))
theorem hdV_X5_cart : yX5_cart.cls = RX5 ∧ yX5_cart.cls ≠ "java/lang/invoke/MethodHandle" ∧ yX5_cart.cls ≠ "java/lang/invoke/VarHandle" ∧ (parseMethodDescriptor yX5_cart.desc).map (fun d => d.parameters.length) = some 1 := by decide +kernel
set_option maxHeartbeats 4000000 in
set_option maxRecDepth 100000 in
theorem c_X5_cart (l : Launch) (G : gG) (w : gW) {b0 : Nat} {b1 : Nat} {b2 : Nat} {b3 : Nat} (hO : okW w b0 b1 b2 b3) (v : Int) (rv : inR v) : mI l G yX5_cart (wU yX5_cart cX5_cart 2 (some .int)) (rmL 1 22) [.ref (ad G 0 0), .int (iI v)] w (po_X5_cart w b0 b1 b2 b3 v) := by
  refine mI_of (by decide +kernel) (Nat.le_of_ble_eq_true rfl) (fun p e s m args below meth c ls C0 hW hl => ?_)
  have hl : lv_has ls 2 [(0, .ref (ad G 0 0)), (1, .int (iI v))] := hl
  have hx := C0.hx
  have hb := C0.hb
  obtain ⟨hp4, hh, hwfs, hs4, hl9⟩ := id hO
  obtain ⟨q0, q1, q2, q3, n1, n2, n3, n4, n5, n6⟩ := id hp4
  have hwf := hwfs 1 ms_1
  obtain ⟨⟨hs1, hs2⟩, ⟨hd1, hd2, hd3⟩, hwet, -, -, -, ⟨hr1, hr2⟩, ⟨hc1, hc2⟩, hds⟩ := id hwf
  have hu1 : ∀ (w : gW) (M : gM), up w 4 M 1 = w 1 := fun w M => up_n w M (by decide)
  have hu31 : ∀ (w : gW) (M : gM), up w b3 M 1 = w 1 := fun w M => up_n w M (by omega)
  have hu91 : ∀ (w : gW) (M : gM), up w 9 M 1 = w 1 := fun w M => up_n w M (by decide)
  have hu14 : ∀ (w : gW) (M : gM), up w 1 M 4 = w 4 := fun w M => up_n w M (by decide)
  have hu94 : ∀ (w : gW) (M : gM), up w 9 M 4 = w 4 := fun w M => up_n w M (by decide)
  have hu19 : ∀ (w : gW) (M : gM), up w 1 M 9 = w 9 := fun w M => up_n w M (by decide)
  have hu49 : ∀ (w : gW) (M : gM), up w 4 M 9 = w 9 := fun w M => up_n w M (by decide)
  have hu39 : ∀ (w : gW) (M : gM), up w b3 M 9 = w 9 := fun w M => up_n w M (by omega)
  have hu42 : ∀ (w : gW) (M : gM), up w 4 M 2 = w 2 := fun w M => up_n w M (by decide)
  have hu32 : ∀ (w : gW) (M : gM), up w b3 M 2 = w 2 := fun w M => up_n w M (by omega)
  have hu20 : ∀ (w : gW) (M : gM), up w 2 M 0 = w 0 := fun w M => up_n w M (by decide)
  have hu21 : ∀ (w : gW) (M : gM), up w 2 M 1 = w 1 := fun w M => up_n w M (by decide)
  have hu31b : ∀ (w : gW) (M : gM), up w 3 M 1 = w 1 := fun w M => up_n w M (by decide)
  have hu01 : ∀ (w : gW) (M : gM), up w 0 M 1 = w 1 := fun w M => up_n w M (by decide)
  have hu24 : ∀ (w : gW) (M : gM), up w 2 M 4 = w 4 := fun w M => up_n w M (by decide)
  have hu34 : ∀ (w : gW) (M : gM), up w 3 M 4 = w 4 := fun w M => up_n w M (by decide)
  refine lv_iload_n hx hb dX5_cart_0 rfl (lv_at hl 1 rfl) ?_
  refine r_iconst hx hb dX5_cart_1 ?_
  refine r_iconst hx hb dX5_cart_2 ?_
  refine k_Si (host := "") C0 hW (As := [.int (iI v), .int (iI 0), .int (iI 1)]) (c_X5_isWithin l G w v 0 1 rv ⟨by omega, by omega⟩ ⟨by omega, by omega⟩) km_X5_58 ks_X5_isWithin kn_X5 kc_X5_isWithin rfl hdS_X5_isWithin ⟨by decide, by decide⟩ rfl hl.1 rfl (Nat.le_of_ble_eq_true rfl) dX5_cart_3 (fun z1 w1 H1 locs1 rz1 hp1 hW => ?_)
  obtain ⟨hp1, hq1⟩ := hp1
  subst hq1
  have rz1a := rz1.1
  have rz1b := rz1.2
  rcases hp1 with ⟨e1, hp1⟩ | ⟨e1, hp1⟩
  · subst e1
    refine r_if_ne (tgt := 11) hx hb ⟨by omega, by omega⟩ dX5_cart_6 (by decide) (fun _ => ?_) (fun q => absurd q (by decide))
    refine lv_aload_n hx hb dX5_cart_11 rfl (lv_at hl 0 rfl) ?_
    refine r_gR C0 hW (show 0 < 11 ∧ 0 < bs 0 from ⟨by decide, by decide⟩) rfl rfl hiX5 (k := 0) (by decide) kf_X5_12 rfl rfl rfl dX5_cart_12 ?_
    refine lv_iload_n hx hb dX5_cart_15 rfl (lv_at hl 1 rfl) ?_
    refine k_Vi (j := 1) (k0 := 0) C0 hW (c_X3_commonerOfCart l G w ms_1 hwf v rv (by omega)) km_X5_214 ki_X3_commonerOfCart ke_X3_commonerOfCart kn_X3 kc_X3_commonerOfCart rfl hdV_X3_commonerOfCart ⟨by decide, by decide⟩ (show 1 < 11 ∧ 0 < bs 1 from ⟨by decide, by decide⟩) (ceX_m ms_1 G 0 _ _) rfl rfl hl.1 rfl (Nat.le_of_ble_eq_true rfl) dX5_cart_16 (fun z2 w2 H1 locs1 rz2 hp2 hW => ?_)
    obtain ⟨hp2, hq2⟩ := hp2
    subst hq2
    have rz2a := rz2.1
    have rz2b := rz2.2
    exact r_iret C0 hW rz2 (by first | exact Or.inl (⟨(by first | assumption | omega | trivial), (by first | omega | assumption | (simp only [id])), (rfl)⟩) | exact Or.inr (⟨(by first | assumption | omega | trivial), (by first | omega | assumption | (simp only [id])), (rfl)⟩)) dX5_cart_19
  · subst e1
    refine r_if_ne (tgt := 11) hx hb ⟨by omega, by omega⟩ dX5_cart_6 (by decide) (fun q => absurd q (by decide)) (fun _ => ?_)
    refine r_iconst hx hb dX5_cart_9 ?_
    exact r_iret C0 hW ⟨by omega, by omega⟩ (by first | exact Or.inl (⟨(by first | assumption | omega | trivial), (by first | omega | assumption | (simp only [id])), (rfl)⟩) | exact Or.inr (⟨(by first | assumption | omega | trivial), (by first | omega | assumption | (simp only [id])), (rfl)⟩)) dX5_cart_10

/-- X5_why: its end -/
def po_X5_why (w : gW) (b0 : Nat) (b1 : Nat) (b2 : Nat) (b3 : Nat) (co : Int) (pl : Int) : Int → gW → Prop := fun z w1 => ((¬ ((0 ≤ co ∧ co ≤ 9) ∧ (0 ≤ pl ∧ pl ≤ 19))) ∧ (z = -1) ∧ (w1 = w)) ∨ ((0 ≤ co ∧ co ≤ 9) ∧ (0 ≤ pl ∧ pl ≤ 19) ∧ (rsn (w 1) co pl z) ∧ (w1 = w))
theorem hdV_X5_why : yX5_why.cls = RX5 ∧ yX5_why.cls ≠ "java/lang/invoke/MethodHandle" ∧ yX5_why.cls ≠ "java/lang/invoke/VarHandle" ∧ (parseMethodDescriptor yX5_why.desc).map (fun d => d.parameters.length) = some 2 := by decide +kernel
set_option maxHeartbeats 4000000 in
set_option maxRecDepth 100000 in
theorem c_X5_why (l : Launch) (G : gG) (w : gW) {b0 : Nat} {b1 : Nat} {b2 : Nat} {b3 : Nat} (hO : okW w b0 b1 b2 b3) (co : Int) (pl : Int) (rco : inR co) (rpl : inR pl) : mI l G yX5_why (wU yX5_why cX5_why 3 (some .int)) (rmL 4 87) [.ref (ad G 0 0), .int (iI co), .int (iI pl)] w (po_X5_why w b0 b1 b2 b3 co pl) := by
  refine mI_of (by decide +kernel) (Nat.le_of_ble_eq_true rfl) (fun p e s m args below meth c ls C0 hW hl => ?_)
  have hl : lv_has ls 3 [(0, .ref (ad G 0 0)), (1, .int (iI co)), (2, .int (iI pl))] := hl
  have hx := C0.hx
  have hb := C0.hb
  obtain ⟨hp4, hh, hwfs, hs4, hl9⟩ := id hO
  obtain ⟨q0, q1, q2, q3, n1, n2, n3, n4, n5, n6⟩ := id hp4
  have hwf := hwfs 1 ms_1
  obtain ⟨⟨hs1, hs2⟩, ⟨hd1, hd2, hd3⟩, hwet, -, -, -, ⟨hr1, hr2⟩, ⟨hc1, hc2⟩, hds⟩ := id hwf
  have hu1 : ∀ (w : gW) (M : gM), up w 4 M 1 = w 1 := fun w M => up_n w M (by decide)
  have hu31 : ∀ (w : gW) (M : gM), up w b3 M 1 = w 1 := fun w M => up_n w M (by omega)
  have hu91 : ∀ (w : gW) (M : gM), up w 9 M 1 = w 1 := fun w M => up_n w M (by decide)
  have hu14 : ∀ (w : gW) (M : gM), up w 1 M 4 = w 4 := fun w M => up_n w M (by decide)
  have hu94 : ∀ (w : gW) (M : gM), up w 9 M 4 = w 4 := fun w M => up_n w M (by decide)
  have hu19 : ∀ (w : gW) (M : gM), up w 1 M 9 = w 9 := fun w M => up_n w M (by decide)
  have hu49 : ∀ (w : gW) (M : gM), up w 4 M 9 = w 9 := fun w M => up_n w M (by decide)
  have hu39 : ∀ (w : gW) (M : gM), up w b3 M 9 = w 9 := fun w M => up_n w M (by omega)
  have hu42 : ∀ (w : gW) (M : gM), up w 4 M 2 = w 2 := fun w M => up_n w M (by decide)
  have hu32 : ∀ (w : gW) (M : gM), up w b3 M 2 = w 2 := fun w M => up_n w M (by omega)
  have hu20 : ∀ (w : gW) (M : gM), up w 2 M 0 = w 0 := fun w M => up_n w M (by decide)
  have hu21 : ∀ (w : gW) (M : gM), up w 2 M 1 = w 1 := fun w M => up_n w M (by decide)
  have hu31b : ∀ (w : gW) (M : gM), up w 3 M 1 = w 1 := fun w M => up_n w M (by decide)
  have hu01 : ∀ (w : gW) (M : gM), up w 0 M 1 = w 1 := fun w M => up_n w M (by decide)
  have hu24 : ∀ (w : gW) (M : gM), up w 2 M 4 = w 4 := fun w M => up_n w M (by decide)
  have hu34 : ∀ (w : gW) (M : gM), up w 3 M 4 = w 4 := fun w M => up_n w M (by decide)
  refine lv_iload_n hx hb dX5_why_0 rfl (lv_at hl 1 rfl) ?_
  refine k_Si (host := "") C0 hW (As := [.int (iI co)]) (c_X5_isCommoner l G w co rco) km_X5_44 ks_X5_isCommoner kn_X5 kc_X5_isCommoner rfl hdS_X5_isCommoner ⟨by decide, by decide⟩ rfl hl.1 rfl (Nat.le_of_ble_eq_true rfl) dX5_why_1 (fun z1 w1 H1 locs1 rz1 hp1 hW => ?_)
  obtain ⟨hp1, hq1⟩ := hp1
  subst hq1
  have rz1a := rz1.1
  have rz1b := rz1.2
  rcases hp1 with ⟨e1, hp1⟩ | ⟨e1, hp1⟩
  · subst e1
    refine r_if_eq (tgt := 14) hx hb ⟨by omega, by omega⟩ dX5_why_4 (by decide) (fun q => absurd q (by decide)) (fun _ => ?_)
    refine lv_iload_n hx hb dX5_why_7 rfl (lv_at hl 2 rfl) ?_
    refine k_Si (host := "") C0 hW (As := [.int (iI pl)]) (c_X5_isPlot l G w pl rpl) km_X5_40 ks_X5_isPlot kn_X5 kc_X5_isPlot rfl hdS_X5_isPlot ⟨by decide, by decide⟩ rfl hl.1 rfl (Nat.le_of_ble_eq_true rfl) dX5_why_8 (fun z2 w2 H1 locs1 rz2 hp2 hW => ?_)
    obtain ⟨hp2, hq2⟩ := hp2
    subst hq2
    have rz2a := rz2.1
    have rz2b := rz2.2
    rcases hp2 with ⟨e2, hp2⟩ | ⟨e2, hp2⟩
    · subst e2
      refine r_if_ne (tgt := 16) hx hb ⟨by omega, by omega⟩ dX5_why_11 (by decide) (fun _ => ?_) (fun q => absurd q (by decide))
      refine lv_aload_n hx hb dX5_why_16 rfl (lv_at hl 0 rfl) ?_
      refine r_gR C0 hW (show 0 < 11 ∧ 0 < bs 0 from ⟨by decide, by decide⟩) rfl rfl hiX5 (k := 0) (by decide) kf_X5_12 rfl rfl rfl dX5_why_17 ?_
      refine lv_iload_n hx hb dX5_why_20 rfl (lv_at hl 1 rfl) ?_
      refine lv_iload_n hx hb dX5_why_21 rfl (lv_at hl 2 rfl) ?_
      refine k_Vi (j := 1) (k0 := 0) C0 hW (c_X3_reasonAgainst l G w ms_1 hwf co pl rco rpl) km_X5_76 ki_X3_reasonAgainst ke_X3_reasonAgainst kn_X3 kc_X3_reasonAgainst rfl hdV_X3_reasonAgainst ⟨by decide, by decide⟩ (show 1 < 11 ∧ 0 < bs 1 from ⟨by decide, by decide⟩) (ceX_m ms_1 G 0 _ _) rfl rfl hl.1 rfl (Nat.le_of_ble_eq_true rfl) dX5_why_22 (fun z3 w3 H1 locs1 rz3 hp3 hW => ?_)
      obtain ⟨hp3, hq3⟩ := hp3
      subst hq3
      have rz3a := rz3.1
      have rz3b := rz3.2
      exact r_iret C0 hW rz3 (by first | exact Or.inl (⟨(by first | assumption | omega | trivial), (by first | omega | assumption | (simp only [id])), (rfl)⟩) | exact Or.inr (⟨(by first | assumption | omega | trivial), (by first | assumption | omega | trivial), (by first | omega | assumption | (simp only [id])), (rfl)⟩)) dX5_why_25
    · subst e2
      refine r_if_ne (tgt := 16) hx hb ⟨by omega, by omega⟩ dX5_why_11 (by decide) (fun q => absurd q (by decide)) (fun _ => ?_)
      refine r_iconst hx hb dX5_why_14 ?_
      exact r_iret C0 hW ⟨by omega, by omega⟩ (by first | exact Or.inl (⟨(by first | assumption | omega | trivial), (by first | omega | assumption | (simp only [id])), (rfl)⟩) | exact Or.inr (⟨(by first | assumption | omega | trivial), (by first | assumption | omega | trivial), (by first | omega | assumption | (simp only [id])), (rfl)⟩)) dX5_why_15
  · subst e1
    refine r_if_eq (tgt := 14) hx hb ⟨by omega, by omega⟩ dX5_why_4 (by decide) (fun _ => ?_) (fun q => absurd q (by decide))
    refine r_iconst hx hb dX5_why_14 ?_
    exact r_iret C0 hW ⟨by omega, by omega⟩ (by first | exact Or.inl (⟨(by first | assumption | omega | trivial), (by first | omega | assumption | (simp only [id])), (rfl)⟩) | exact Or.inr (⟨(by first | assumption | omega | trivial), (by first | assumption | omega | trivial), (by first | omega | assumption | (simp only [id])), (rfl)⟩)) dX5_why_15


/-- X5_plot: its end -/
def po_X5_plot (w : gW) (b0 : Nat) (b1 : Nat) (b2 : Nat) (b3 : Nat) (pl : Int) (q : Int) : Int → gW → Prop := fun z w1 => ((¬ (0 ≤ pl ∧ pl ≤ 19)) ∧ (z = -1) ∧ (w1 = w)) ∨ ((0 ≤ pl ∧ pl ≤ 19) ∧ (q < 0 ∨ 3 < q) ∧ (z = -2) ∧ (w1 = w)) ∨ ((0 ≤ pl ∧ pl ≤ 19) ∧ (q = 0) ∧ (z = gA (w 1) 1 pl) ∧ (w1 = w)) ∨ ((0 ≤ pl ∧ pl ≤ 19) ∧ (q = 1) ∧ (z = gA (w 1) 2 pl) ∧ (w1 = w)) ∨ ((0 ≤ pl ∧ pl ≤ 19) ∧ (q = 2) ∧ (z = gA (w 1) 3 pl) ∧ (w1 = w)) ∨ ((0 ≤ pl ∧ pl ≤ 19) ∧ (q = 3) ∧ (gA (w 1) 3 pl = gA (w 1) 2 pl) ∧ (z = 0) ∧ (w1 = w)) ∨ ((0 ≤ pl ∧ pl ≤ 19) ∧ (q = 3) ∧ (¬ gA (w 1) 3 pl = gA (w 1) 2 pl) ∧ (z = 1) ∧ (w1 = w))
theorem hdV_X5_plot : yX5_plot.cls = RX5 ∧ yX5_plot.cls ≠ "java/lang/invoke/MethodHandle" ∧ yX5_plot.cls ≠ "java/lang/invoke/VarHandle" ∧ (parseMethodDescriptor yX5_plot.desc).map (fun d => d.parameters.length) = some 2 := by decide +kernel
set_option maxHeartbeats 4000000 in
set_option maxRecDepth 100000 in
theorem c_X5_plot (l : Launch) (G : gG) (w : gW) {b0 : Nat} {b1 : Nat} {b2 : Nat} {b3 : Nat} (hO : okW w b0 b1 b2 b3) (pl : Int) (q : Int) (rpl : inR pl) (rq : inR q) : mI l G yX5_plot (wU yX5_plot cX5_plot 3 (some .int)) (rmL 2 42) [.ref (ad G 0 0), .int (iI pl), .int (iI q)] w (po_X5_plot w b0 b1 b2 b3 pl q) := by
  refine mI_of (by decide +kernel) (Nat.le_of_ble_eq_true rfl) (fun p e s m args below meth c ls C0 hW hl => ?_)
  have hl : lv_has ls 3 [(0, .ref (ad G 0 0)), (1, .int (iI pl)), (2, .int (iI q))] := hl
  have hx := C0.hx
  have hb := C0.hb
  obtain ⟨hp4, hh, hwfs, hs4, hl9⟩ := id hO
  obtain ⟨q0, q1, q2, q3, n1, n2, n3, n4, n5, n6⟩ := id hp4
  have hwf := hwfs 1 ms_1
  obtain ⟨⟨hs1, hs2⟩, ⟨hd1, hd2, hd3⟩, hwet, -, -, -, ⟨hr1, hr2⟩, ⟨hc1, hc2⟩, hds⟩ := id hwf
  have hu1 : ∀ (w : gW) (M : gM), up w 4 M 1 = w 1 := fun w M => up_n w M (by decide)
  have hu31 : ∀ (w : gW) (M : gM), up w b3 M 1 = w 1 := fun w M => up_n w M (by omega)
  have hu91 : ∀ (w : gW) (M : gM), up w 9 M 1 = w 1 := fun w M => up_n w M (by decide)
  have hu14 : ∀ (w : gW) (M : gM), up w 1 M 4 = w 4 := fun w M => up_n w M (by decide)
  have hu94 : ∀ (w : gW) (M : gM), up w 9 M 4 = w 4 := fun w M => up_n w M (by decide)
  have hu19 : ∀ (w : gW) (M : gM), up w 1 M 9 = w 9 := fun w M => up_n w M (by decide)
  have hu49 : ∀ (w : gW) (M : gM), up w 4 M 9 = w 9 := fun w M => up_n w M (by decide)
  have hu39 : ∀ (w : gW) (M : gM), up w b3 M 9 = w 9 := fun w M => up_n w M (by omega)
  have hu42 : ∀ (w : gW) (M : gM), up w 4 M 2 = w 2 := fun w M => up_n w M (by decide)
  have hu32 : ∀ (w : gW) (M : gM), up w b3 M 2 = w 2 := fun w M => up_n w M (by omega)
  have hu20 : ∀ (w : gW) (M : gM), up w 2 M 0 = w 0 := fun w M => up_n w M (by decide)
  have hu21 : ∀ (w : gW) (M : gM), up w 2 M 1 = w 1 := fun w M => up_n w M (by decide)
  have hu31b : ∀ (w : gW) (M : gM), up w 3 M 1 = w 1 := fun w M => up_n w M (by decide)
  have hu01 : ∀ (w : gW) (M : gM), up w 0 M 1 = w 1 := fun w M => up_n w M (by decide)
  have hu24 : ∀ (w : gW) (M : gM), up w 2 M 4 = w 4 := fun w M => up_n w M (by decide)
  have hu34 : ∀ (w : gW) (M : gM), up w 3 M 4 = w 4 := fun w M => up_n w M (by decide)
  refine lv_iload_n hx hb dX5_plot_0 rfl (lv_at hl 1 rfl) ?_
  refine k_Si (host := "") C0 hW (As := [.int (iI pl)]) (c_X5_isPlot l G w pl rpl) km_X5_40 ks_X5_isPlot kn_X5 kc_X5_isPlot rfl hdS_X5_isPlot ⟨by decide, by decide⟩ rfl hl.1 rfl (Nat.le_of_ble_eq_true rfl) dX5_plot_1 (fun z1 w1 H1 locs1 rz1 hp1 hW => ?_)
  obtain ⟨hp1, hq1⟩ := hp1
  subst hq1
  have rz1a := rz1.1
  have rz1b := rz1.2
  rcases hp1 with ⟨e1, hp1⟩ | ⟨e1, hp1⟩
  · subst e1
    refine r_if_ne (tgt := 9) hx hb ⟨by omega, by omega⟩ dX5_plot_4 (by decide) (fun _ => ?_) (fun q => absurd q (by decide))
    refine lv_iload_n hx hb dX5_plot_9 rfl (lv_at hl 2 rfl) ?_
    by_cases c2 : q < 0 ∨ 3 < q
    · refine r_tabOut (tgt := 100) hx hb rq dX5_plot_10 c2 (by decide) ?_
      refine r_bipush hx hb dX5_plot_100 (by decide) ?_
      exact r_iret C0 hW ⟨by omega, by omega⟩ (by first | exact Or.inl (⟨(by first | assumption | omega | trivial), (by first | omega | assumption | (simp only [id])), (rfl)⟩) | exact Or.inr (Or.inl (⟨(by first | assumption | omega | trivial), (by first | assumption | omega | trivial), (by first | omega | assumption | (simp only [id])), (rfl)⟩)) | exact Or.inr (Or.inr (Or.inl (⟨(by first | assumption | omega | trivial), (by first | assumption | omega | trivial), (by first | omega | assumption | (simp only [id])), (rfl)⟩))) | exact Or.inr (Or.inr (Or.inr (Or.inl (⟨(by first | assumption | omega | trivial), (by first | assumption | omega | trivial), (by first | omega | assumption | (simp only [id])), (rfl)⟩)))) | exact Or.inr (Or.inr (Or.inr (Or.inr (Or.inl (⟨(by first | assumption | omega | trivial), (by first | assumption | omega | trivial), (by first | omega | assumption | (simp only [id])), (rfl)⟩))))) | exact Or.inr (Or.inr (Or.inr (Or.inr (Or.inr (Or.inl (⟨(by first | assumption | omega | trivial), (by first | assumption | omega | trivial), (by first | assumption | omega | trivial), (by first | omega | assumption | (simp only [id])), (rfl)⟩)))))) | exact Or.inr (Or.inr (Or.inr (Or.inr (Or.inr (Or.inr (⟨(by first | assumption | omega | trivial), (by first | assumption | omega | trivial), (by first | assumption | omega | trivial), (by first | omega | assumption | (simp only [id])), (rfl)⟩))))))) dX5_plot_102
    have c2 : q = 0 ∨ q = 1 ∨ q = 2 ∨ q = 3 := by omega
    rcases c2 with c2 | c2 | c2 | c2
    · refine r_tabIn (tgt := 40) hx hb rq dX5_plot_10 (by omega) (by omega) (by rw [c2]; rfl) (by decide) ?_
      refine lv_aload_n hx hb dX5_plot_40 rfl (lv_at hl 0 rfl) ?_
      refine r_gR C0 hW (show 0 < 11 ∧ 0 < bs 0 from ⟨by decide, by decide⟩) rfl rfl hiX5 (k := 0) (by decide) kf_X5_12 rfl rfl rfl dX5_plot_41 ?_
      refine r_gR C0 hW (show 1 < 11 ∧ 0 < bs 1 from ⟨by decide, by decide⟩) (ceX_m ms_1 G 0 _ _) rfl hiX3 (k := 0) (by decide) kf_X5_185 rfl rfl rfl dX5_plot_44 ?_
      refine lv_iload_n hx hb dX5_plot_47 rfl (lv_at hl 1 rfl) ?_
      refine r_ild C0 hW (show 1 < 11 ∧ 1 < bs 1 from ⟨by decide, by decide⟩) (ceX_m ms_1 G 1 _ _) (n := 20) (by omega) (by omega) (by omega) dX5_plot_48 (fun z3 (hz3 : z3 = gA (w 1) 1 pl) rz3 => ?_)
      have rz3a := rz3.1
      have rz3b := rz3.2
      exact r_iret C0 hW rz3 (by first | exact Or.inl (⟨(by first | assumption | omega | trivial), (by first | omega | assumption | (simp only [hz3])), (rfl)⟩) | exact Or.inr (Or.inl (⟨(by first | assumption | omega | trivial), (by first | assumption | omega | trivial), (by first | omega | assumption | (simp only [hz3])), (rfl)⟩)) | exact Or.inr (Or.inr (Or.inl (⟨(by first | assumption | omega | trivial), (by first | assumption | omega | trivial), (by first | omega | assumption | (simp only [hz3])), (rfl)⟩))) | exact Or.inr (Or.inr (Or.inr (Or.inl (⟨(by first | assumption | omega | trivial), (by first | assumption | omega | trivial), (by first | omega | assumption | (simp only [hz3])), (rfl)⟩)))) | exact Or.inr (Or.inr (Or.inr (Or.inr (Or.inl (⟨(by first | assumption | omega | trivial), (by first | assumption | omega | trivial), (by first | omega | assumption | (simp only [hz3])), (rfl)⟩))))) | exact Or.inr (Or.inr (Or.inr (Or.inr (Or.inr (Or.inl (⟨(by first | assumption | omega | trivial), (by first | assumption | omega | trivial), (by first | assumption | omega | trivial), (by first | omega | assumption | (simp only [hz3])), (rfl)⟩)))))) | exact Or.inr (Or.inr (Or.inr (Or.inr (Or.inr (Or.inr (⟨(by first | assumption | omega | trivial), (by first | assumption | omega | trivial), (by first | assumption | omega | trivial), (by first | omega | assumption | (simp only [hz3])), (rfl)⟩))))))) dX5_plot_49
    · refine r_tabIn (tgt := 50) hx hb rq dX5_plot_10 (by omega) (by omega) (by rw [c2]; rfl) (by decide) ?_
      refine lv_aload_n hx hb dX5_plot_50 rfl (lv_at hl 0 rfl) ?_
      refine r_gR C0 hW (show 0 < 11 ∧ 0 < bs 0 from ⟨by decide, by decide⟩) rfl rfl hiX5 (k := 0) (by decide) kf_X5_12 rfl rfl rfl dX5_plot_51 ?_
      refine r_gR C0 hW (show 1 < 11 ∧ 0 < bs 1 from ⟨by decide, by decide⟩) (ceX_m ms_1 G 0 _ _) rfl hiX3 (k := 1) (by decide) kf_X5_55 rfl rfl rfl dX5_plot_54 ?_
      refine lv_iload_n hx hb dX5_plot_57 rfl (lv_at hl 1 rfl) ?_
      refine r_ild C0 hW (show 1 < 11 ∧ 2 < bs 1 from ⟨by decide, by decide⟩) (ceX_m ms_1 G 2 _ _) (n := 20) (by omega) (by omega) (by omega) dX5_plot_58 (fun z4 (hz4 : z4 = gA (w 1) 2 pl) rz4 => ?_)
      have rz4a := rz4.1
      have rz4b := rz4.2
      exact r_iret C0 hW rz4 (by first | exact Or.inl (⟨(by first | assumption | omega | trivial), (by first | omega | assumption | (simp only [hz4])), (rfl)⟩) | exact Or.inr (Or.inl (⟨(by first | assumption | omega | trivial), (by first | assumption | omega | trivial), (by first | omega | assumption | (simp only [hz4])), (rfl)⟩)) | exact Or.inr (Or.inr (Or.inl (⟨(by first | assumption | omega | trivial), (by first | assumption | omega | trivial), (by first | omega | assumption | (simp only [hz4])), (rfl)⟩))) | exact Or.inr (Or.inr (Or.inr (Or.inl (⟨(by first | assumption | omega | trivial), (by first | assumption | omega | trivial), (by first | omega | assumption | (simp only [hz4])), (rfl)⟩)))) | exact Or.inr (Or.inr (Or.inr (Or.inr (Or.inl (⟨(by first | assumption | omega | trivial), (by first | assumption | omega | trivial), (by first | omega | assumption | (simp only [hz4])), (rfl)⟩))))) | exact Or.inr (Or.inr (Or.inr (Or.inr (Or.inr (Or.inl (⟨(by first | assumption | omega | trivial), (by first | assumption | omega | trivial), (by first | assumption | omega | trivial), (by first | omega | assumption | (simp only [hz4])), (rfl)⟩)))))) | exact Or.inr (Or.inr (Or.inr (Or.inr (Or.inr (Or.inr (⟨(by first | assumption | omega | trivial), (by first | assumption | omega | trivial), (by first | assumption | omega | trivial), (by first | omega | assumption | (simp only [hz4])), (rfl)⟩))))))) dX5_plot_59
    · refine r_tabIn (tgt := 60) hx hb rq dX5_plot_10 (by omega) (by omega) (by rw [c2]; rfl) (by decide) ?_
      refine lv_aload_n hx hb dX5_plot_60 rfl (lv_at hl 0 rfl) ?_
      refine r_gR C0 hW (show 0 < 11 ∧ 0 < bs 0 from ⟨by decide, by decide⟩) rfl rfl hiX5 (k := 0) (by decide) kf_X5_12 rfl rfl rfl dX5_plot_61 ?_
      refine r_gR C0 hW (show 1 < 11 ∧ 0 < bs 1 from ⟨by decide, by decide⟩) (ceX_m ms_1 G 0 _ _) rfl hiX3 (k := 2) (by decide) kf_X5_47 rfl rfl rfl dX5_plot_64 ?_
      refine lv_iload_n hx hb dX5_plot_67 rfl (lv_at hl 1 rfl) ?_
      refine r_ild C0 hW (show 1 < 11 ∧ 3 < bs 1 from ⟨by decide, by decide⟩) (ceX_m ms_1 G 3 _ _) (n := 20) (by omega) (by omega) (by omega) dX5_plot_68 (fun z5 (hz5 : z5 = gA (w 1) 3 pl) rz5 => ?_)
      have rz5a := rz5.1
      have rz5b := rz5.2
      exact r_iret C0 hW rz5 (by first | exact Or.inl (⟨(by first | assumption | omega | trivial), (by first | omega | assumption | (simp only [hz5])), (rfl)⟩) | exact Or.inr (Or.inl (⟨(by first | assumption | omega | trivial), (by first | assumption | omega | trivial), (by first | omega | assumption | (simp only [hz5])), (rfl)⟩)) | exact Or.inr (Or.inr (Or.inl (⟨(by first | assumption | omega | trivial), (by first | assumption | omega | trivial), (by first | omega | assumption | (simp only [hz5])), (rfl)⟩))) | exact Or.inr (Or.inr (Or.inr (Or.inl (⟨(by first | assumption | omega | trivial), (by first | assumption | omega | trivial), (by first | omega | assumption | (simp only [hz5])), (rfl)⟩)))) | exact Or.inr (Or.inr (Or.inr (Or.inr (Or.inl (⟨(by first | assumption | omega | trivial), (by first | assumption | omega | trivial), (by first | omega | assumption | (simp only [hz5])), (rfl)⟩))))) | exact Or.inr (Or.inr (Or.inr (Or.inr (Or.inr (Or.inl (⟨(by first | assumption | omega | trivial), (by first | assumption | omega | trivial), (by first | assumption | omega | trivial), (by first | omega | assumption | (simp only [hz5])), (rfl)⟩)))))) | exact Or.inr (Or.inr (Or.inr (Or.inr (Or.inr (Or.inr (⟨(by first | assumption | omega | trivial), (by first | assumption | omega | trivial), (by first | assumption | omega | trivial), (by first | omega | assumption | (simp only [hz5])), (rfl)⟩))))))) dX5_plot_69
    · refine r_tabIn (tgt := 70) hx hb rq dX5_plot_10 (by omega) (by omega) (by rw [c2]; rfl) (by decide) ?_
      refine lv_aload_n hx hb dX5_plot_70 rfl (lv_at hl 0 rfl) ?_
      refine r_gR C0 hW (show 0 < 11 ∧ 0 < bs 0 from ⟨by decide, by decide⟩) rfl rfl hiX5 (k := 0) (by decide) kf_X5_12 rfl rfl rfl dX5_plot_71 ?_
      refine r_gR C0 hW (show 1 < 11 ∧ 0 < bs 1 from ⟨by decide, by decide⟩) (ceX_m ms_1 G 0 _ _) rfl hiX3 (k := 2) (by decide) kf_X5_47 rfl rfl rfl dX5_plot_74 ?_
      refine lv_iload_n hx hb dX5_plot_77 rfl (lv_at hl 1 rfl) ?_
      refine r_ild C0 hW (show 1 < 11 ∧ 3 < bs 1 from ⟨by decide, by decide⟩) (ceX_m ms_1 G 3 _ _) (n := 20) (by omega) (by omega) (by omega) dX5_plot_78 (fun z6 (hz6 : z6 = gA (w 1) 3 pl) rz6 => ?_)
      have rz6a := rz6.1
      have rz6b := rz6.2
      refine lv_aload_n hx hb dX5_plot_79 rfl (lv_at hl 0 rfl) ?_
      refine r_gR C0 hW (show 0 < 11 ∧ 0 < bs 0 from ⟨by decide, by decide⟩) rfl rfl hiX5 (k := 0) (by decide) kf_X5_12 rfl rfl rfl dX5_plot_80 ?_
      refine r_gR C0 hW (show 1 < 11 ∧ 0 < bs 1 from ⟨by decide, by decide⟩) (ceX_m ms_1 G 0 _ _) rfl hiX3 (k := 1) (by decide) kf_X5_55 rfl rfl rfl dX5_plot_83 ?_
      refine lv_iload_n hx hb dX5_plot_86 rfl (lv_at hl 1 rfl) ?_
      refine r_ild C0 hW (show 1 < 11 ∧ 2 < bs 1 from ⟨by decide, by decide⟩) (ceX_m ms_1 G 2 _ _) (n := 20) (by omega) (by omega) (by omega) dX5_plot_87 (fun z7 (hz7 : z7 = gA (w 1) 2 pl) rz7 => ?_)
      have rz7a := rz7.1
      have rz7b := rz7.2
      refine r_icmp_eq (tgt := 95) hx hb rz6 rz7 dX5_plot_88 (by decide) (fun c8 => ?_) (fun c8 => ?_)
      · refine r_iconst hx hb dX5_plot_95 ?_
        refine k_Si (host := "") C0 hW (As := [.int (iI 0)]) (c_X5_oneIf l G w 0 ⟨by omega, by omega⟩) km_X5_188 ks_X5_oneIf kn_X5 kc_X5_oneIf rfl hdS_X5_oneIf ⟨by decide, by decide⟩ rfl hl.1 rfl (Nat.le_of_ble_eq_true rfl) dX5_plot_96 (fun z9 w9 H1 locs1 rz9 hp9 hW => ?_)
        obtain ⟨hp9, hq9⟩ := hp9
        subst hq9
        have rz9a := rz9.1
        have rz9b := rz9.2
        rcases hp9 with ⟨e9, hp9⟩ | ⟨e9, hp9⟩
        · subst e9
          exact r_iret C0 hW ⟨by omega, by omega⟩ (by first | exact Or.inl (⟨(by first | assumption | omega | trivial), (by first | omega | assumption | (simp only [hz6, hz7])), (rfl)⟩) | exact Or.inr (Or.inl (⟨(by first | assumption | omega | trivial), (by first | assumption | omega | trivial), (by first | omega | assumption | (simp only [hz6, hz7])), (rfl)⟩)) | exact Or.inr (Or.inr (Or.inl (⟨(by first | assumption | omega | trivial), (by first | assumption | omega | trivial), (by first | omega | assumption | (simp only [hz6, hz7])), (rfl)⟩))) | exact Or.inr (Or.inr (Or.inr (Or.inl (⟨(by first | assumption | omega | trivial), (by first | assumption | omega | trivial), (by first | omega | assumption | (simp only [hz6, hz7])), (rfl)⟩)))) | exact Or.inr (Or.inr (Or.inr (Or.inr (Or.inl (⟨(by first | assumption | omega | trivial), (by first | assumption | omega | trivial), (by first | omega | assumption | (simp only [hz6, hz7])), (rfl)⟩))))) | exact Or.inr (Or.inr (Or.inr (Or.inr (Or.inr (Or.inl (⟨(by first | assumption | omega | trivial), (by first | assumption | omega | trivial), (by first | assumption | omega | trivial), (by first | omega | assumption | (simp only [hz6, hz7])), (rfl)⟩)))))) | exact Or.inr (Or.inr (Or.inr (Or.inr (Or.inr (Or.inr (⟨(by first | assumption | omega | trivial), (by first | assumption | omega | trivial), (by first | assumption | omega | trivial), (by first | omega | assumption | (simp only [hz6, hz7])), (rfl)⟩))))))) dX5_plot_99
        · subst e9
          exact r_iret C0 hW ⟨by omega, by omega⟩ (by first | exact Or.inl (⟨(by first | assumption | omega | trivial), (by first | omega | assumption | (simp only [hz6, hz7])), (rfl)⟩) | exact Or.inr (Or.inl (⟨(by first | assumption | omega | trivial), (by first | assumption | omega | trivial), (by first | omega | assumption | (simp only [hz6, hz7])), (rfl)⟩)) | exact Or.inr (Or.inr (Or.inl (⟨(by first | assumption | omega | trivial), (by first | assumption | omega | trivial), (by first | omega | assumption | (simp only [hz6, hz7])), (rfl)⟩))) | exact Or.inr (Or.inr (Or.inr (Or.inl (⟨(by first | assumption | omega | trivial), (by first | assumption | omega | trivial), (by first | omega | assumption | (simp only [hz6, hz7])), (rfl)⟩)))) | exact Or.inr (Or.inr (Or.inr (Or.inr (Or.inl (⟨(by first | assumption | omega | trivial), (by first | assumption | omega | trivial), (by first | omega | assumption | (simp only [hz6, hz7])), (rfl)⟩))))) | exact Or.inr (Or.inr (Or.inr (Or.inr (Or.inr (Or.inl (⟨(by first | assumption | omega | trivial), (by first | assumption | omega | trivial), (by first | assumption | omega | trivial), (by first | omega | assumption | (simp only [hz6, hz7])), (rfl)⟩)))))) | exact Or.inr (Or.inr (Or.inr (Or.inr (Or.inr (Or.inr (⟨(by first | assumption | omega | trivial), (by first | assumption | omega | trivial), (by first | assumption | omega | trivial), (by first | omega | assumption | (simp only [hz6, hz7])), (rfl)⟩))))))) dX5_plot_99
      · refine r_iconst hx hb dX5_plot_91 ?_
        refine lv_goto (tgt := 96) hx hb dX5_plot_92 (by decide) ?_
        refine k_Si (host := "") C0 hW (As := [.int (iI 1)]) (c_X5_oneIf l G w 1 ⟨by omega, by omega⟩) km_X5_188 ks_X5_oneIf kn_X5 kc_X5_oneIf rfl hdS_X5_oneIf ⟨by decide, by decide⟩ rfl hl.1 rfl (Nat.le_of_ble_eq_true rfl) dX5_plot_96 (fun z10 w10 H1 locs1 rz10 hp10 hW => ?_)
        obtain ⟨hp10, hq10⟩ := hp10
        subst hq10
        have rz10a := rz10.1
        have rz10b := rz10.2
        rcases hp10 with ⟨e10, hp10⟩ | ⟨e10, hp10⟩
        · subst e10
          exact r_iret C0 hW ⟨by omega, by omega⟩ (by first | exact Or.inl (⟨(by first | assumption | omega | trivial), (by first | omega | assumption | (simp only [hz6, hz7])), (rfl)⟩) | exact Or.inr (Or.inl (⟨(by first | assumption | omega | trivial), (by first | assumption | omega | trivial), (by first | omega | assumption | (simp only [hz6, hz7])), (rfl)⟩)) | exact Or.inr (Or.inr (Or.inl (⟨(by first | assumption | omega | trivial), (by first | assumption | omega | trivial), (by first | omega | assumption | (simp only [hz6, hz7])), (rfl)⟩))) | exact Or.inr (Or.inr (Or.inr (Or.inl (⟨(by first | assumption | omega | trivial), (by first | assumption | omega | trivial), (by first | omega | assumption | (simp only [hz6, hz7])), (rfl)⟩)))) | exact Or.inr (Or.inr (Or.inr (Or.inr (Or.inl (⟨(by first | assumption | omega | trivial), (by first | assumption | omega | trivial), (by first | omega | assumption | (simp only [hz6, hz7])), (rfl)⟩))))) | exact Or.inr (Or.inr (Or.inr (Or.inr (Or.inr (Or.inl (⟨(by first | assumption | omega | trivial), (by first | assumption | omega | trivial), (by first | assumption | omega | trivial), (by first | omega | assumption | (simp only [hz6, hz7])), (rfl)⟩)))))) | exact Or.inr (Or.inr (Or.inr (Or.inr (Or.inr (Or.inr (⟨(by first | assumption | omega | trivial), (by first | assumption | omega | trivial), (by first | assumption | omega | trivial), (by first | omega | assumption | (simp only [hz6, hz7])), (rfl)⟩))))))) dX5_plot_99
        · subst e10
          exact r_iret C0 hW ⟨by omega, by omega⟩ (by first | exact Or.inl (⟨(by first | assumption | omega | trivial), (by first | omega | assumption | (simp only [hz6, hz7])), (rfl)⟩) | exact Or.inr (Or.inl (⟨(by first | assumption | omega | trivial), (by first | assumption | omega | trivial), (by first | omega | assumption | (simp only [hz6, hz7])), (rfl)⟩)) | exact Or.inr (Or.inr (Or.inl (⟨(by first | assumption | omega | trivial), (by first | assumption | omega | trivial), (by first | omega | assumption | (simp only [hz6, hz7])), (rfl)⟩))) | exact Or.inr (Or.inr (Or.inr (Or.inl (⟨(by first | assumption | omega | trivial), (by first | assumption | omega | trivial), (by first | omega | assumption | (simp only [hz6, hz7])), (rfl)⟩)))) | exact Or.inr (Or.inr (Or.inr (Or.inr (Or.inl (⟨(by first | assumption | omega | trivial), (by first | assumption | omega | trivial), (by first | omega | assumption | (simp only [hz6, hz7])), (rfl)⟩))))) | exact Or.inr (Or.inr (Or.inr (Or.inr (Or.inr (Or.inl (⟨(by first | assumption | omega | trivial), (by first | assumption | omega | trivial), (by first | assumption | omega | trivial), (by first | omega | assumption | (simp only [hz6, hz7])), (rfl)⟩)))))) | exact Or.inr (Or.inr (Or.inr (Or.inr (Or.inr (Or.inr (⟨(by first | assumption | omega | trivial), (by first | assumption | omega | trivial), (by first | assumption | omega | trivial), (by first | omega | assumption | (simp only [hz6, hz7])), (rfl)⟩))))))) dX5_plot_99
  · subst e1
    refine r_if_ne (tgt := 9) hx hb ⟨by omega, by omega⟩ dX5_plot_4 (by decide) (fun q => absurd q (by decide)) (fun _ => ?_)
    refine r_iconst hx hb dX5_plot_7 ?_
    exact r_iret C0 hW ⟨by omega, by omega⟩ (by first | exact Or.inl (⟨(by first | assumption | omega | trivial), (by first | omega | assumption | (simp only [id])), (rfl)⟩) | exact Or.inr (Or.inl (⟨(by first | assumption | omega | trivial), (by first | assumption | omega | trivial), (by first | omega | assumption | (simp only [id])), (rfl)⟩)) | exact Or.inr (Or.inr (Or.inl (⟨(by first | assumption | omega | trivial), (by first | assumption | omega | trivial), (by first | omega | assumption | (simp only [id])), (rfl)⟩))) | exact Or.inr (Or.inr (Or.inr (Or.inl (⟨(by first | assumption | omega | trivial), (by first | assumption | omega | trivial), (by first | omega | assumption | (simp only [id])), (rfl)⟩)))) | exact Or.inr (Or.inr (Or.inr (Or.inr (Or.inl (⟨(by first | assumption | omega | trivial), (by first | assumption | omega | trivial), (by first | omega | assumption | (simp only [id])), (rfl)⟩))))) | exact Or.inr (Or.inr (Or.inr (Or.inr (Or.inr (Or.inl (⟨(by first | assumption | omega | trivial), (by first | assumption | omega | trivial), (by first | assumption | omega | trivial), (by first | omega | assumption | (simp only [id])), (rfl)⟩)))))) | exact Or.inr (Or.inr (Or.inr (Or.inr (Or.inr (Or.inr (⟨(by first | assumption | omega | trivial), (by first | assumption | omega | trivial), (by first | assumption | omega | trivial), (by first | omega | assumption | (simp only [id])), (rfl)⟩))))))) dX5_plot_8

/-- X5_commoner: its end -/
def po_X5_commoner (w : gW) (b0 : Nat) (b1 : Nat) (b2 : Nat) (b3 : Nat) (co : Int) (q : Int) : Int → gW → Prop := fun z w1 => ((¬ (0 ≤ co ∧ co ≤ 9)) ∧ (z = -1) ∧ (w1 = w)) ∨ ((0 ≤ co ∧ co ≤ 9) ∧ (q < 0 ∨ 7 < q) ∧ (z = -2) ∧ (w1 = w)) ∨ ((0 ≤ co ∧ co ≤ 9) ∧ (q = 0) ∧ (z = gA (w 1) 4 co) ∧ (w1 = w)) ∨ ((0 ≤ co ∧ co ≤ 9) ∧ (q = 1) ∧ (z = gA (w 1) 5 co) ∧ (w1 = w)) ∨ ((0 ≤ co ∧ co ≤ 9) ∧ (q = 2) ∧ (z = gA (w 1) 6 co) ∧ (w1 = w)) ∨ ((0 ≤ co ∧ co ≤ 9) ∧ (q = 3) ∧ (z = cntI (pOf (w 1) co) (gN (w 1) 7 6)) ∧ (w1 = w)) ∨ ((0 ≤ co ∧ co ≤ 9) ∧ (q = 4) ∧ (z = cntI (pSO (w 1) co) (gN (w 1) 7 6)) ∧ (w1 = w)) ∨ ((0 ≤ co ∧ co ≤ 9) ∧ (q = 5) ∧ (z = cntI (pEq (w 1) 2 co) ((20 : Nat) : Int)) ∧ (w1 = w)) ∨ ((0 ≤ co ∧ co ≤ 9) ∧ (q = 6) ∧ (z = cntI (pEq (w 1) 3 co) ((20 : Nat) : Int)) ∧ (w1 = w)) ∨ ((0 ≤ co ∧ co ≤ 9) ∧ (q = 7) ∧ (z = cntI (pDi (w 1) co) (gN (w 1) 14 5) - cntI (pDi (w 1) co) (gN (w 1) 14 4)) ∧ (w1 = w))
theorem hdV_X5_commoner : yX5_commoner.cls = RX5 ∧ yX5_commoner.cls ≠ "java/lang/invoke/MethodHandle" ∧ yX5_commoner.cls ≠ "java/lang/invoke/VarHandle" ∧ (parseMethodDescriptor yX5_commoner.desc).map (fun d => d.parameters.length) = some 2 := by decide +kernel
set_option maxHeartbeats 4000000 in
set_option maxRecDepth 100000 in
theorem c_X5_commoner (l : Launch) (G : gG) (w : gW) {b0 : Nat} {b1 : Nat} {b2 : Nat} {b3 : Nat} (hO : okW w b0 b1 b2 b3) (co : Int) (q : Int) (rco : inR co) (rq : inR q) : mI l G yX5_commoner (wU yX5_commoner cX5_commoner 3 (some .int)) (rmL 5 101) [.ref (ad G 0 0), .int (iI co), .int (iI q)] w (po_X5_commoner w b0 b1 b2 b3 co q) := by
  refine mI_of (by decide +kernel) (Nat.le_of_ble_eq_true rfl) (fun p e s m args below meth c ls C0 hW hl => ?_)
  have hl : lv_has ls 3 [(0, .ref (ad G 0 0)), (1, .int (iI co)), (2, .int (iI q))] := hl
  have hx := C0.hx
  have hb := C0.hb
  obtain ⟨hp4, hh, hwfs, hs4, hl9⟩ := id hO
  obtain ⟨q0, q1, q2, q3, n1, n2, n3, n4, n5, n6⟩ := id hp4
  have hwf := hwfs 1 ms_1
  obtain ⟨⟨hs1, hs2⟩, ⟨hd1, hd2, hd3⟩, hwet, -, -, -, ⟨hr1, hr2⟩, ⟨hc1, hc2⟩, hds⟩ := id hwf
  have hu1 : ∀ (w : gW) (M : gM), up w 4 M 1 = w 1 := fun w M => up_n w M (by decide)
  have hu31 : ∀ (w : gW) (M : gM), up w b3 M 1 = w 1 := fun w M => up_n w M (by omega)
  have hu91 : ∀ (w : gW) (M : gM), up w 9 M 1 = w 1 := fun w M => up_n w M (by decide)
  have hu14 : ∀ (w : gW) (M : gM), up w 1 M 4 = w 4 := fun w M => up_n w M (by decide)
  have hu94 : ∀ (w : gW) (M : gM), up w 9 M 4 = w 4 := fun w M => up_n w M (by decide)
  have hu19 : ∀ (w : gW) (M : gM), up w 1 M 9 = w 9 := fun w M => up_n w M (by decide)
  have hu49 : ∀ (w : gW) (M : gM), up w 4 M 9 = w 9 := fun w M => up_n w M (by decide)
  have hu39 : ∀ (w : gW) (M : gM), up w b3 M 9 = w 9 := fun w M => up_n w M (by omega)
  have hu42 : ∀ (w : gW) (M : gM), up w 4 M 2 = w 2 := fun w M => up_n w M (by decide)
  have hu32 : ∀ (w : gW) (M : gM), up w b3 M 2 = w 2 := fun w M => up_n w M (by omega)
  have hu20 : ∀ (w : gW) (M : gM), up w 2 M 0 = w 0 := fun w M => up_n w M (by decide)
  have hu21 : ∀ (w : gW) (M : gM), up w 2 M 1 = w 1 := fun w M => up_n w M (by decide)
  have hu31b : ∀ (w : gW) (M : gM), up w 3 M 1 = w 1 := fun w M => up_n w M (by decide)
  have hu01 : ∀ (w : gW) (M : gM), up w 0 M 1 = w 1 := fun w M => up_n w M (by decide)
  have hu24 : ∀ (w : gW) (M : gM), up w 2 M 4 = w 4 := fun w M => up_n w M (by decide)
  have hu34 : ∀ (w : gW) (M : gM), up w 3 M 4 = w 4 := fun w M => up_n w M (by decide)
  refine lv_iload_n hx hb dX5_commoner_0 rfl (lv_at hl 1 rfl) ?_
  refine k_Si (host := "") C0 hW (As := [.int (iI co)]) (c_X5_isCommoner l G w co rco) km_X5_44 ks_X5_isCommoner kn_X5 kc_X5_isCommoner rfl hdS_X5_isCommoner ⟨by decide, by decide⟩ rfl hl.1 rfl (Nat.le_of_ble_eq_true rfl) dX5_commoner_1 (fun z1 w1 H1 locs1 rz1 hp1 hW => ?_)
  obtain ⟨hp1, hq1⟩ := hp1
  subst hq1
  have rz1a := rz1.1
  have rz1b := rz1.2
  rcases hp1 with ⟨e1, hp1⟩ | ⟨e1, hp1⟩
  · subst e1
    refine r_if_ne (tgt := 9) hx hb ⟨by omega, by omega⟩ dX5_commoner_4 (by decide) (fun _ => ?_) (fun q => absurd q (by decide))
    refine lv_iload_n hx hb dX5_commoner_9 rfl (lv_at hl 2 rfl) ?_
    by_cases c2 : q < 0 ∨ 7 < q
    · refine r_tabOut (tgt := 146) hx hb rq dX5_commoner_10 c2 (by decide) ?_
      refine r_bipush hx hb dX5_commoner_146 (by decide) ?_
      exact r_iret C0 hW ⟨by omega, by omega⟩ (by first | exact Or.inl (⟨(by first | assumption | omega | trivial), (by first | omega | assumption | (simp only [id])), (rfl)⟩) | exact Or.inr (Or.inl (⟨(by first | assumption | omega | trivial), (by first | assumption | omega | trivial), (by first | omega | assumption | (simp only [id])), (rfl)⟩)) | exact Or.inr (Or.inr (Or.inl (⟨(by first | assumption | omega | trivial), (by first | assumption | omega | trivial), (by first | omega | assumption | (simp only [id])), (rfl)⟩))) | exact Or.inr (Or.inr (Or.inr (Or.inl (⟨(by first | assumption | omega | trivial), (by first | assumption | omega | trivial), (by first | omega | assumption | (simp only [id])), (rfl)⟩)))) | exact Or.inr (Or.inr (Or.inr (Or.inr (Or.inl (⟨(by first | assumption | omega | trivial), (by first | assumption | omega | trivial), (by first | omega | assumption | (simp only [id])), (rfl)⟩))))) | exact Or.inr (Or.inr (Or.inr (Or.inr (Or.inr (Or.inl (⟨(by first | assumption | omega | trivial), (by first | assumption | omega | trivial), (by first | omega | assumption | (simp only [id])), (rfl)⟩)))))) | exact Or.inr (Or.inr (Or.inr (Or.inr (Or.inr (Or.inr (Or.inl (⟨(by first | assumption | omega | trivial), (by first | assumption | omega | trivial), (by first | omega | assumption | (simp only [id])), (rfl)⟩))))))) | exact Or.inr (Or.inr (Or.inr (Or.inr (Or.inr (Or.inr (Or.inr (Or.inl (⟨(by first | assumption | omega | trivial), (by first | assumption | omega | trivial), (by first | omega | assumption | (simp only [id])), (rfl)⟩)))))))) | exact Or.inr (Or.inr (Or.inr (Or.inr (Or.inr (Or.inr (Or.inr (Or.inr (Or.inl (⟨(by first | assumption | omega | trivial), (by first | assumption | omega | trivial), (by first | omega | assumption | (simp only [id])), (rfl)⟩))))))))) | exact Or.inr (Or.inr (Or.inr (Or.inr (Or.inr (Or.inr (Or.inr (Or.inr (Or.inr (⟨(by first | assumption | omega | trivial), (by first | assumption | omega | trivial), (by first | omega | assumption | (simp only [id])), (rfl)⟩)))))))))) dX5_commoner_148
    have c2 : q = 0 ∨ q = 1 ∨ q = 2 ∨ q = 3 ∨ q = 4 ∨ q = 5 ∨ q = 6 ∨ q = 7 := by omega
    rcases c2 with c2 | c2 | c2 | c2 | c2 | c2 | c2 | c2
    · refine r_tabIn (tgt := 56) hx hb rq dX5_commoner_10 (by omega) (by omega) (by rw [c2]; rfl) (by decide) ?_
      refine lv_aload_n hx hb dX5_commoner_56 rfl (lv_at hl 0 rfl) ?_
      refine r_gR C0 hW (show 0 < 11 ∧ 0 < bs 0 from ⟨by decide, by decide⟩) rfl rfl hiX5 (k := 0) (by decide) kf_X5_12 rfl rfl rfl dX5_commoner_57 ?_
      refine r_gR C0 hW (show 1 < 11 ∧ 0 < bs 1 from ⟨by decide, by decide⟩) (ceX_m ms_1 G 0 _ _) rfl hiX3 (k := 3) (by decide) kf_X5_62 rfl rfl rfl dX5_commoner_60 ?_
      refine lv_iload_n hx hb dX5_commoner_63 rfl (lv_at hl 1 rfl) ?_
      refine r_ild C0 hW (show 1 < 11 ∧ 4 < bs 1 from ⟨by decide, by decide⟩) (ceX_m ms_1 G 4 _ _) (n := 10) (by omega) (by omega) (by omega) dX5_commoner_64 (fun z3 (hz3 : z3 = gA (w 1) 4 co) rz3 => ?_)
      have rz3a := rz3.1
      have rz3b := rz3.2
      exact r_iret C0 hW rz3 (by first | exact Or.inl (⟨(by first | assumption | omega | trivial), (by first | omega | assumption | (simp only [hz3])), (rfl)⟩) | exact Or.inr (Or.inl (⟨(by first | assumption | omega | trivial), (by first | assumption | omega | trivial), (by first | omega | assumption | (simp only [hz3])), (rfl)⟩)) | exact Or.inr (Or.inr (Or.inl (⟨(by first | assumption | omega | trivial), (by first | assumption | omega | trivial), (by first | omega | assumption | (simp only [hz3])), (rfl)⟩))) | exact Or.inr (Or.inr (Or.inr (Or.inl (⟨(by first | assumption | omega | trivial), (by first | assumption | omega | trivial), (by first | omega | assumption | (simp only [hz3])), (rfl)⟩)))) | exact Or.inr (Or.inr (Or.inr (Or.inr (Or.inl (⟨(by first | assumption | omega | trivial), (by first | assumption | omega | trivial), (by first | omega | assumption | (simp only [hz3])), (rfl)⟩))))) | exact Or.inr (Or.inr (Or.inr (Or.inr (Or.inr (Or.inl (⟨(by first | assumption | omega | trivial), (by first | assumption | omega | trivial), (by first | omega | assumption | (simp only [hz3])), (rfl)⟩)))))) | exact Or.inr (Or.inr (Or.inr (Or.inr (Or.inr (Or.inr (Or.inl (⟨(by first | assumption | omega | trivial), (by first | assumption | omega | trivial), (by first | omega | assumption | (simp only [hz3])), (rfl)⟩))))))) | exact Or.inr (Or.inr (Or.inr (Or.inr (Or.inr (Or.inr (Or.inr (Or.inl (⟨(by first | assumption | omega | trivial), (by first | assumption | omega | trivial), (by first | omega | assumption | (simp only [hz3])), (rfl)⟩)))))))) | exact Or.inr (Or.inr (Or.inr (Or.inr (Or.inr (Or.inr (Or.inr (Or.inr (Or.inl (⟨(by first | assumption | omega | trivial), (by first | assumption | omega | trivial), (by first | omega | assumption | (simp only [hz3])), (rfl)⟩))))))))) | exact Or.inr (Or.inr (Or.inr (Or.inr (Or.inr (Or.inr (Or.inr (Or.inr (Or.inr (⟨(by first | assumption | omega | trivial), (by first | assumption | omega | trivial), (by first | omega | assumption | (simp only [hz3])), (rfl)⟩)))))))))) dX5_commoner_65
    · refine r_tabIn (tgt := 66) hx hb rq dX5_commoner_10 (by omega) (by omega) (by rw [c2]; rfl) (by decide) ?_
      refine lv_aload_n hx hb dX5_commoner_66 rfl (lv_at hl 0 rfl) ?_
      refine r_gR C0 hW (show 0 < 11 ∧ 0 < bs 0 from ⟨by decide, by decide⟩) rfl rfl hiX5 (k := 0) (by decide) kf_X5_12 rfl rfl rfl dX5_commoner_67 ?_
      refine r_gR C0 hW (show 1 < 11 ∧ 0 < bs 1 from ⟨by decide, by decide⟩) (ceX_m ms_1 G 0 _ _) rfl hiX3 (k := 4) (by decide) kf_X5_169 rfl rfl rfl dX5_commoner_70 ?_
      refine lv_iload_n hx hb dX5_commoner_73 rfl (lv_at hl 1 rfl) ?_
      refine r_ild C0 hW (show 1 < 11 ∧ 5 < bs 1 from ⟨by decide, by decide⟩) (ceX_m ms_1 G 5 _ _) (n := 10) (by omega) (by omega) (by omega) dX5_commoner_74 (fun z4 (hz4 : z4 = gA (w 1) 5 co) rz4 => ?_)
      have rz4a := rz4.1
      have rz4b := rz4.2
      exact r_iret C0 hW rz4 (by first | exact Or.inl (⟨(by first | assumption | omega | trivial), (by first | omega | assumption | (simp only [hz4])), (rfl)⟩) | exact Or.inr (Or.inl (⟨(by first | assumption | omega | trivial), (by first | assumption | omega | trivial), (by first | omega | assumption | (simp only [hz4])), (rfl)⟩)) | exact Or.inr (Or.inr (Or.inl (⟨(by first | assumption | omega | trivial), (by first | assumption | omega | trivial), (by first | omega | assumption | (simp only [hz4])), (rfl)⟩))) | exact Or.inr (Or.inr (Or.inr (Or.inl (⟨(by first | assumption | omega | trivial), (by first | assumption | omega | trivial), (by first | omega | assumption | (simp only [hz4])), (rfl)⟩)))) | exact Or.inr (Or.inr (Or.inr (Or.inr (Or.inl (⟨(by first | assumption | omega | trivial), (by first | assumption | omega | trivial), (by first | omega | assumption | (simp only [hz4])), (rfl)⟩))))) | exact Or.inr (Or.inr (Or.inr (Or.inr (Or.inr (Or.inl (⟨(by first | assumption | omega | trivial), (by first | assumption | omega | trivial), (by first | omega | assumption | (simp only [hz4])), (rfl)⟩)))))) | exact Or.inr (Or.inr (Or.inr (Or.inr (Or.inr (Or.inr (Or.inl (⟨(by first | assumption | omega | trivial), (by first | assumption | omega | trivial), (by first | omega | assumption | (simp only [hz4])), (rfl)⟩))))))) | exact Or.inr (Or.inr (Or.inr (Or.inr (Or.inr (Or.inr (Or.inr (Or.inl (⟨(by first | assumption | omega | trivial), (by first | assumption | omega | trivial), (by first | omega | assumption | (simp only [hz4])), (rfl)⟩)))))))) | exact Or.inr (Or.inr (Or.inr (Or.inr (Or.inr (Or.inr (Or.inr (Or.inr (Or.inl (⟨(by first | assumption | omega | trivial), (by first | assumption | omega | trivial), (by first | omega | assumption | (simp only [hz4])), (rfl)⟩))))))))) | exact Or.inr (Or.inr (Or.inr (Or.inr (Or.inr (Or.inr (Or.inr (Or.inr (Or.inr (⟨(by first | assumption | omega | trivial), (by first | assumption | omega | trivial), (by first | omega | assumption | (simp only [hz4])), (rfl)⟩)))))))))) dX5_commoner_75
    · refine r_tabIn (tgt := 76) hx hb rq dX5_commoner_10 (by omega) (by omega) (by rw [c2]; rfl) (by decide) ?_
      refine lv_aload_n hx hb dX5_commoner_76 rfl (lv_at hl 0 rfl) ?_
      refine r_gR C0 hW (show 0 < 11 ∧ 0 < bs 0 from ⟨by decide, by decide⟩) rfl rfl hiX5 (k := 0) (by decide) kf_X5_12 rfl rfl rfl dX5_commoner_77 ?_
      refine r_gR C0 hW (show 1 < 11 ∧ 0 < bs 1 from ⟨by decide, by decide⟩) (ceX_m ms_1 G 0 _ _) rfl hiX3 (k := 5) (by decide) kf_X5_172 rfl rfl rfl dX5_commoner_80 ?_
      refine lv_iload_n hx hb dX5_commoner_83 rfl (lv_at hl 1 rfl) ?_
      refine r_ild C0 hW (show 1 < 11 ∧ 6 < bs 1 from ⟨by decide, by decide⟩) (ceX_m ms_1 G 6 _ _) (n := 10) (by omega) (by omega) (by omega) dX5_commoner_84 (fun z5 (hz5 : z5 = gA (w 1) 6 co) rz5 => ?_)
      have rz5a := rz5.1
      have rz5b := rz5.2
      exact r_iret C0 hW rz5 (by first | exact Or.inl (⟨(by first | assumption | omega | trivial), (by first | omega | assumption | (simp only [hz5])), (rfl)⟩) | exact Or.inr (Or.inl (⟨(by first | assumption | omega | trivial), (by first | assumption | omega | trivial), (by first | omega | assumption | (simp only [hz5])), (rfl)⟩)) | exact Or.inr (Or.inr (Or.inl (⟨(by first | assumption | omega | trivial), (by first | assumption | omega | trivial), (by first | omega | assumption | (simp only [hz5])), (rfl)⟩))) | exact Or.inr (Or.inr (Or.inr (Or.inl (⟨(by first | assumption | omega | trivial), (by first | assumption | omega | trivial), (by first | omega | assumption | (simp only [hz5])), (rfl)⟩)))) | exact Or.inr (Or.inr (Or.inr (Or.inr (Or.inl (⟨(by first | assumption | omega | trivial), (by first | assumption | omega | trivial), (by first | omega | assumption | (simp only [hz5])), (rfl)⟩))))) | exact Or.inr (Or.inr (Or.inr (Or.inr (Or.inr (Or.inl (⟨(by first | assumption | omega | trivial), (by first | assumption | omega | trivial), (by first | omega | assumption | (simp only [hz5])), (rfl)⟩)))))) | exact Or.inr (Or.inr (Or.inr (Or.inr (Or.inr (Or.inr (Or.inl (⟨(by first | assumption | omega | trivial), (by first | assumption | omega | trivial), (by first | omega | assumption | (simp only [hz5])), (rfl)⟩))))))) | exact Or.inr (Or.inr (Or.inr (Or.inr (Or.inr (Or.inr (Or.inr (Or.inl (⟨(by first | assumption | omega | trivial), (by first | assumption | omega | trivial), (by first | omega | assumption | (simp only [hz5])), (rfl)⟩)))))))) | exact Or.inr (Or.inr (Or.inr (Or.inr (Or.inr (Or.inr (Or.inr (Or.inr (Or.inl (⟨(by first | assumption | omega | trivial), (by first | assumption | omega | trivial), (by first | omega | assumption | (simp only [hz5])), (rfl)⟩))))))))) | exact Or.inr (Or.inr (Or.inr (Or.inr (Or.inr (Or.inr (Or.inr (Or.inr (Or.inr (⟨(by first | assumption | omega | trivial), (by first | assumption | omega | trivial), (by first | omega | assumption | (simp only [hz5])), (rfl)⟩)))))))))) dX5_commoner_85
    · refine r_tabIn (tgt := 86) hx hb rq dX5_commoner_10 (by omega) (by omega) (by rw [c2]; rfl) (by decide) ?_
      refine lv_aload_n hx hb dX5_commoner_86 rfl (lv_at hl 0 rfl) ?_
      refine r_gR C0 hW (show 0 < 11 ∧ 0 < bs 0 from ⟨by decide, by decide⟩) rfl rfl hiX5 (k := 0) (by decide) kf_X5_12 rfl rfl rfl dX5_commoner_87 ?_
      refine r_gR C0 hW (show 1 < 11 ∧ 0 < bs 1 from ⟨by decide, by decide⟩) (ceX_m ms_1 G 0 _ _) rfl hiX3 (k := 6) (by decide) kf_X5_80 rfl rfl rfl dX5_commoner_90 ?_
      refine lv_iload_n hx hb dX5_commoner_93 rfl (lv_at hl 1 rfl) ?_
      refine k_Vi (j := 1) (k0 := 7) C0 hW (c_X4_countLyingOf l G w ms_1 hwf co rco) km_X5_175 ki_X4_countLyingOf ke_X4_countLyingOf kn_X4 kc_X4_countLyingOf rfl hdV_X4_countLyingOf ⟨by decide, by decide⟩ (show 1 < 11 ∧ 7 < bs 1 from ⟨by decide, by decide⟩) (ceX_m ms_1 G 7 _ _) rfl rfl hl.1 rfl (Nat.le_of_ble_eq_true rfl) dX5_commoner_94 (fun z6 w6 H1 locs1 rz6 hp6 hW => ?_)
      obtain ⟨hp6, hq6⟩ := hp6
      subst hq6
      have rz6a := rz6.1
      have rz6b := rz6.2
      exact r_iret C0 hW rz6 (by first | exact Or.inl (⟨(by first | assumption | omega | trivial), (by first | omega | assumption | (simp only [id])), (rfl)⟩) | exact Or.inr (Or.inl (⟨(by first | assumption | omega | trivial), (by first | assumption | omega | trivial), (by first | omega | assumption | (simp only [id])), (rfl)⟩)) | exact Or.inr (Or.inr (Or.inl (⟨(by first | assumption | omega | trivial), (by first | assumption | omega | trivial), (by first | omega | assumption | (simp only [id])), (rfl)⟩))) | exact Or.inr (Or.inr (Or.inr (Or.inl (⟨(by first | assumption | omega | trivial), (by first | assumption | omega | trivial), (by first | omega | assumption | (simp only [id])), (rfl)⟩)))) | exact Or.inr (Or.inr (Or.inr (Or.inr (Or.inl (⟨(by first | assumption | omega | trivial), (by first | assumption | omega | trivial), (by first | omega | assumption | (simp only [id])), (rfl)⟩))))) | exact Or.inr (Or.inr (Or.inr (Or.inr (Or.inr (Or.inl (⟨(by first | assumption | omega | trivial), (by first | assumption | omega | trivial), (by first | omega | assumption | (simp only [id])), (rfl)⟩)))))) | exact Or.inr (Or.inr (Or.inr (Or.inr (Or.inr (Or.inr (Or.inl (⟨(by first | assumption | omega | trivial), (by first | assumption | omega | trivial), (by first | omega | assumption | (simp only [id])), (rfl)⟩))))))) | exact Or.inr (Or.inr (Or.inr (Or.inr (Or.inr (Or.inr (Or.inr (Or.inl (⟨(by first | assumption | omega | trivial), (by first | assumption | omega | trivial), (by first | omega | assumption | (simp only [id])), (rfl)⟩)))))))) | exact Or.inr (Or.inr (Or.inr (Or.inr (Or.inr (Or.inr (Or.inr (Or.inr (Or.inl (⟨(by first | assumption | omega | trivial), (by first | assumption | omega | trivial), (by first | omega | assumption | (simp only [id])), (rfl)⟩))))))))) | exact Or.inr (Or.inr (Or.inr (Or.inr (Or.inr (Or.inr (Or.inr (Or.inr (Or.inr (⟨(by first | assumption | omega | trivial), (by first | assumption | omega | trivial), (by first | omega | assumption | (simp only [id])), (rfl)⟩)))))))))) dX5_commoner_97
    · refine r_tabIn (tgt := 98) hx hb rq dX5_commoner_10 (by omega) (by omega) (by rw [c2]; rfl) (by decide) ?_
      refine lv_aload_n hx hb dX5_commoner_98 rfl (lv_at hl 0 rfl) ?_
      refine r_gR C0 hW (show 0 < 11 ∧ 0 < bs 0 from ⟨by decide, by decide⟩) rfl rfl hiX5 (k := 0) (by decide) kf_X5_12 rfl rfl rfl dX5_commoner_99 ?_
      refine r_gR C0 hW (show 1 < 11 ∧ 0 < bs 1 from ⟨by decide, by decide⟩) (ceX_m ms_1 G 0 _ _) rfl hiX3 (k := 6) (by decide) kf_X5_80 rfl rfl rfl dX5_commoner_102 ?_
      refine lv_iload_n hx hb dX5_commoner_105 rfl (lv_at hl 1 rfl) ?_
      refine k_Vi (j := 1) (k0 := 7) C0 hW (c_X4_countStackedOf l G w ms_1 hwf co rco) km_X5_112 ki_X4_countStackedOf ke_X4_countStackedOf kn_X4 kc_X4_countStackedOf rfl hdV_X4_countStackedOf ⟨by decide, by decide⟩ (show 1 < 11 ∧ 7 < bs 1 from ⟨by decide, by decide⟩) (ceX_m ms_1 G 7 _ _) rfl rfl hl.1 rfl (Nat.le_of_ble_eq_true rfl) dX5_commoner_106 (fun z7 w7 H1 locs1 rz7 hp7 hW => ?_)
      obtain ⟨hp7, hq7⟩ := hp7
      subst hq7
      have rz7a := rz7.1
      have rz7b := rz7.2
      exact r_iret C0 hW rz7 (by first | exact Or.inl (⟨(by first | assumption | omega | trivial), (by first | omega | assumption | (simp only [id])), (rfl)⟩) | exact Or.inr (Or.inl (⟨(by first | assumption | omega | trivial), (by first | assumption | omega | trivial), (by first | omega | assumption | (simp only [id])), (rfl)⟩)) | exact Or.inr (Or.inr (Or.inl (⟨(by first | assumption | omega | trivial), (by first | assumption | omega | trivial), (by first | omega | assumption | (simp only [id])), (rfl)⟩))) | exact Or.inr (Or.inr (Or.inr (Or.inl (⟨(by first | assumption | omega | trivial), (by first | assumption | omega | trivial), (by first | omega | assumption | (simp only [id])), (rfl)⟩)))) | exact Or.inr (Or.inr (Or.inr (Or.inr (Or.inl (⟨(by first | assumption | omega | trivial), (by first | assumption | omega | trivial), (by first | omega | assumption | (simp only [id])), (rfl)⟩))))) | exact Or.inr (Or.inr (Or.inr (Or.inr (Or.inr (Or.inl (⟨(by first | assumption | omega | trivial), (by first | assumption | omega | trivial), (by first | omega | assumption | (simp only [id])), (rfl)⟩)))))) | exact Or.inr (Or.inr (Or.inr (Or.inr (Or.inr (Or.inr (Or.inl (⟨(by first | assumption | omega | trivial), (by first | assumption | omega | trivial), (by first | omega | assumption | (simp only [id])), (rfl)⟩))))))) | exact Or.inr (Or.inr (Or.inr (Or.inr (Or.inr (Or.inr (Or.inr (Or.inl (⟨(by first | assumption | omega | trivial), (by first | assumption | omega | trivial), (by first | omega | assumption | (simp only [id])), (rfl)⟩)))))))) | exact Or.inr (Or.inr (Or.inr (Or.inr (Or.inr (Or.inr (Or.inr (Or.inr (Or.inl (⟨(by first | assumption | omega | trivial), (by first | assumption | omega | trivial), (by first | omega | assumption | (simp only [id])), (rfl)⟩))))))))) | exact Or.inr (Or.inr (Or.inr (Or.inr (Or.inr (Or.inr (Or.inr (Or.inr (Or.inr (⟨(by first | assumption | omega | trivial), (by first | assumption | omega | trivial), (by first | omega | assumption | (simp only [id])), (rfl)⟩)))))))))) dX5_commoner_109
    · refine r_tabIn (tgt := 110) hx hb rq dX5_commoner_10 (by omega) (by omega) (by rw [c2]; rfl) (by decide) ?_
      refine lv_aload_n hx hb dX5_commoner_110 rfl (lv_at hl 0 rfl) ?_
      refine r_gR C0 hW (show 0 < 11 ∧ 0 < bs 0 from ⟨by decide, by decide⟩) rfl rfl hiX5 (k := 0) (by decide) kf_X5_12 rfl rfl rfl dX5_commoner_111 ?_
      refine r_gR C0 hW (show 1 < 11 ∧ 0 < bs 1 from ⟨by decide, by decide⟩) (ceX_m ms_1 G 0 _ _) rfl hiX3 (k := 1) (by decide) kf_X5_55 rfl rfl rfl dX5_commoner_114 ?_
      refine lv_iload_n hx hb dX5_commoner_117 rfl (lv_at hl 1 rfl) ?_
      refine k_Si (host := "") C0 hW (As := [.ref (ad G 1 2), .int (iI co)]) (c_X5_countEqual l G w 20 (show 1 < 11 ∧ 2 < bs 1 from ⟨by decide, by decide⟩) (by omega) (fun A => (ceX_m ms_1 G 2 _ _)) co rco) km_X5_178 ks_X5_countEqual kn_X5 kc_X5_countEqual rfl hdS_X5_countEqual ⟨by decide, by decide⟩ rfl hl.1 rfl (Nat.le_of_ble_eq_true rfl) dX5_commoner_118 (fun z8 w8 H1 locs1 rz8 hp8 hW => ?_)
      obtain ⟨hp8, hq8⟩ := hp8
      subst hq8
      have rz8a := rz8.1
      have rz8b := rz8.2
      exact r_iret C0 hW rz8 (by first | exact Or.inl (⟨(by first | assumption | omega | trivial), (by first | omega | assumption | (simp only [id])), (rfl)⟩) | exact Or.inr (Or.inl (⟨(by first | assumption | omega | trivial), (by first | assumption | omega | trivial), (by first | omega | assumption | (simp only [id])), (rfl)⟩)) | exact Or.inr (Or.inr (Or.inl (⟨(by first | assumption | omega | trivial), (by first | assumption | omega | trivial), (by first | omega | assumption | (simp only [id])), (rfl)⟩))) | exact Or.inr (Or.inr (Or.inr (Or.inl (⟨(by first | assumption | omega | trivial), (by first | assumption | omega | trivial), (by first | omega | assumption | (simp only [id])), (rfl)⟩)))) | exact Or.inr (Or.inr (Or.inr (Or.inr (Or.inl (⟨(by first | assumption | omega | trivial), (by first | assumption | omega | trivial), (by first | omega | assumption | (simp only [id])), (rfl)⟩))))) | exact Or.inr (Or.inr (Or.inr (Or.inr (Or.inr (Or.inl (⟨(by first | assumption | omega | trivial), (by first | assumption | omega | trivial), (by first | omega | assumption | (simp only [id])), (rfl)⟩)))))) | exact Or.inr (Or.inr (Or.inr (Or.inr (Or.inr (Or.inr (Or.inl (⟨(by first | assumption | omega | trivial), (by first | assumption | omega | trivial), (by first | omega | assumption | (simp only [id])), (rfl)⟩))))))) | exact Or.inr (Or.inr (Or.inr (Or.inr (Or.inr (Or.inr (Or.inr (Or.inl (⟨(by first | assumption | omega | trivial), (by first | assumption | omega | trivial), (by first | omega | assumption | (simp only [id])), (rfl)⟩)))))))) | exact Or.inr (Or.inr (Or.inr (Or.inr (Or.inr (Or.inr (Or.inr (Or.inr (Or.inl (⟨(by first | assumption | omega | trivial), (by first | assumption | omega | trivial), (by first | omega | assumption | (simp only [id])), (rfl)⟩))))))))) | exact Or.inr (Or.inr (Or.inr (Or.inr (Or.inr (Or.inr (Or.inr (Or.inr (Or.inr (⟨(by first | assumption | omega | trivial), (by first | assumption | omega | trivial), (by first | omega | assumption | (simp only [id])), (rfl)⟩)))))))))) dX5_commoner_121
    · refine r_tabIn (tgt := 122) hx hb rq dX5_commoner_10 (by omega) (by omega) (by rw [c2]; rfl) (by decide) ?_
      refine lv_aload_n hx hb dX5_commoner_122 rfl (lv_at hl 0 rfl) ?_
      refine r_gR C0 hW (show 0 < 11 ∧ 0 < bs 0 from ⟨by decide, by decide⟩) rfl rfl hiX5 (k := 0) (by decide) kf_X5_12 rfl rfl rfl dX5_commoner_123 ?_
      refine r_gR C0 hW (show 1 < 11 ∧ 0 < bs 1 from ⟨by decide, by decide⟩) (ceX_m ms_1 G 0 _ _) rfl hiX3 (k := 2) (by decide) kf_X5_47 rfl rfl rfl dX5_commoner_126 ?_
      refine lv_iload_n hx hb dX5_commoner_129 rfl (lv_at hl 1 rfl) ?_
      refine k_Si (host := "") C0 hW (As := [.ref (ad G 1 3), .int (iI co)]) (c_X5_countEqual l G w 20 (show 1 < 11 ∧ 3 < bs 1 from ⟨by decide, by decide⟩) (by omega) (fun A => (ceX_m ms_1 G 3 _ _)) co rco) km_X5_178 ks_X5_countEqual kn_X5 kc_X5_countEqual rfl hdS_X5_countEqual ⟨by decide, by decide⟩ rfl hl.1 rfl (Nat.le_of_ble_eq_true rfl) dX5_commoner_130 (fun z9 w9 H1 locs1 rz9 hp9 hW => ?_)
      obtain ⟨hp9, hq9⟩ := hp9
      subst hq9
      have rz9a := rz9.1
      have rz9b := rz9.2
      exact r_iret C0 hW rz9 (by first | exact Or.inl (⟨(by first | assumption | omega | trivial), (by first | omega | assumption | (simp only [id])), (rfl)⟩) | exact Or.inr (Or.inl (⟨(by first | assumption | omega | trivial), (by first | assumption | omega | trivial), (by first | omega | assumption | (simp only [id])), (rfl)⟩)) | exact Or.inr (Or.inr (Or.inl (⟨(by first | assumption | omega | trivial), (by first | assumption | omega | trivial), (by first | omega | assumption | (simp only [id])), (rfl)⟩))) | exact Or.inr (Or.inr (Or.inr (Or.inl (⟨(by first | assumption | omega | trivial), (by first | assumption | omega | trivial), (by first | omega | assumption | (simp only [id])), (rfl)⟩)))) | exact Or.inr (Or.inr (Or.inr (Or.inr (Or.inl (⟨(by first | assumption | omega | trivial), (by first | assumption | omega | trivial), (by first | omega | assumption | (simp only [id])), (rfl)⟩))))) | exact Or.inr (Or.inr (Or.inr (Or.inr (Or.inr (Or.inl (⟨(by first | assumption | omega | trivial), (by first | assumption | omega | trivial), (by first | omega | assumption | (simp only [id])), (rfl)⟩)))))) | exact Or.inr (Or.inr (Or.inr (Or.inr (Or.inr (Or.inr (Or.inl (⟨(by first | assumption | omega | trivial), (by first | assumption | omega | trivial), (by first | omega | assumption | (simp only [id])), (rfl)⟩))))))) | exact Or.inr (Or.inr (Or.inr (Or.inr (Or.inr (Or.inr (Or.inr (Or.inl (⟨(by first | assumption | omega | trivial), (by first | assumption | omega | trivial), (by first | omega | assumption | (simp only [id])), (rfl)⟩)))))))) | exact Or.inr (Or.inr (Or.inr (Or.inr (Or.inr (Or.inr (Or.inr (Or.inr (Or.inl (⟨(by first | assumption | omega | trivial), (by first | assumption | omega | trivial), (by first | omega | assumption | (simp only [id])), (rfl)⟩))))))))) | exact Or.inr (Or.inr (Or.inr (Or.inr (Or.inr (Or.inr (Or.inr (Or.inr (Or.inr (⟨(by first | assumption | omega | trivial), (by first | assumption | omega | trivial), (by first | omega | assumption | (simp only [id])), (rfl)⟩)))))))))) dX5_commoner_133
    · refine r_tabIn (tgt := 134) hx hb rq dX5_commoner_10 (by omega) (by omega) (by rw [c2]; rfl) (by decide) ?_
      refine lv_aload_n hx hb dX5_commoner_134 rfl (lv_at hl 0 rfl) ?_
      refine r_gR C0 hW (show 0 < 11 ∧ 0 < bs 0 from ⟨by decide, by decide⟩) rfl rfl hiX5 (k := 0) (by decide) kf_X5_12 rfl rfl rfl dX5_commoner_135 ?_
      refine r_gR C0 hW (show 1 < 11 ∧ 0 < bs 1 from ⟨by decide, by decide⟩) (ceX_m ms_1 G 0 _ _) rfl hiX3 (k := 7) (by decide) kf_X5_135 rfl rfl rfl dX5_commoner_138 ?_
      refine lv_iload_n hx hb dX5_commoner_141 rfl (lv_at hl 1 rfl) ?_
      refine k_Vi (j := 1) (k0 := 14) C0 hW (c_X1_countOpenWith l G w ms_1 hwf co rco) km_X5_182 ki_X1_countOpenWith ke_X1_countOpenWith kn_X1 kc_X1_countOpenWith rfl hdV_X1_countOpenWith ⟨by decide, by decide⟩ (show 1 < 11 ∧ 14 < bs 1 from ⟨by decide, by decide⟩) (ceX_m ms_1 G 14 _ _) rfl rfl hl.1 rfl (Nat.le_of_ble_eq_true rfl) dX5_commoner_142 (fun z10 w10 H1 locs1 rz10 hp10 hW => ?_)
      obtain ⟨hp10, hq10⟩ := hp10
      subst hq10
      have rz10a := rz10.1
      have rz10b := rz10.2
      exact r_iret C0 hW rz10 (by first | exact Or.inl (⟨(by first | assumption | omega | trivial), (by first | omega | assumption | (simp only [id])), (rfl)⟩) | exact Or.inr (Or.inl (⟨(by first | assumption | omega | trivial), (by first | assumption | omega | trivial), (by first | omega | assumption | (simp only [id])), (rfl)⟩)) | exact Or.inr (Or.inr (Or.inl (⟨(by first | assumption | omega | trivial), (by first | assumption | omega | trivial), (by first | omega | assumption | (simp only [id])), (rfl)⟩))) | exact Or.inr (Or.inr (Or.inr (Or.inl (⟨(by first | assumption | omega | trivial), (by first | assumption | omega | trivial), (by first | omega | assumption | (simp only [id])), (rfl)⟩)))) | exact Or.inr (Or.inr (Or.inr (Or.inr (Or.inl (⟨(by first | assumption | omega | trivial), (by first | assumption | omega | trivial), (by first | omega | assumption | (simp only [id])), (rfl)⟩))))) | exact Or.inr (Or.inr (Or.inr (Or.inr (Or.inr (Or.inl (⟨(by first | assumption | omega | trivial), (by first | assumption | omega | trivial), (by first | omega | assumption | (simp only [id])), (rfl)⟩)))))) | exact Or.inr (Or.inr (Or.inr (Or.inr (Or.inr (Or.inr (Or.inl (⟨(by first | assumption | omega | trivial), (by first | assumption | omega | trivial), (by first | omega | assumption | (simp only [id])), (rfl)⟩))))))) | exact Or.inr (Or.inr (Or.inr (Or.inr (Or.inr (Or.inr (Or.inr (Or.inl (⟨(by first | assumption | omega | trivial), (by first | assumption | omega | trivial), (by first | omega | assumption | (simp only [id])), (rfl)⟩)))))))) | exact Or.inr (Or.inr (Or.inr (Or.inr (Or.inr (Or.inr (Or.inr (Or.inr (Or.inl (⟨(by first | assumption | omega | trivial), (by first | assumption | omega | trivial), (by first | omega | assumption | (simp only [id])), (rfl)⟩))))))))) | exact Or.inr (Or.inr (Or.inr (Or.inr (Or.inr (Or.inr (Or.inr (Or.inr (Or.inr (⟨(by first | assumption | omega | trivial), (by first | assumption | omega | trivial), (by first | omega | assumption | (simp only [id])), (rfl)⟩)))))))))) dX5_commoner_145
  · subst e1
    refine r_if_ne (tgt := 9) hx hb ⟨by omega, by omega⟩ dX5_commoner_4 (by decide) (fun q => absurd q (by decide)) (fun _ => ?_)
    refine r_iconst hx hb dX5_commoner_7 ?_
    exact r_iret C0 hW ⟨by omega, by omega⟩ (by first | exact Or.inl (⟨(by first | assumption | omega | trivial), (by first | omega | assumption | (simp only [id])), (rfl)⟩) | exact Or.inr (Or.inl (⟨(by first | assumption | omega | trivial), (by first | assumption | omega | trivial), (by first | omega | assumption | (simp only [id])), (rfl)⟩)) | exact Or.inr (Or.inr (Or.inl (⟨(by first | assumption | omega | trivial), (by first | assumption | omega | trivial), (by first | omega | assumption | (simp only [id])), (rfl)⟩))) | exact Or.inr (Or.inr (Or.inr (Or.inl (⟨(by first | assumption | omega | trivial), (by first | assumption | omega | trivial), (by first | omega | assumption | (simp only [id])), (rfl)⟩)))) | exact Or.inr (Or.inr (Or.inr (Or.inr (Or.inl (⟨(by first | assumption | omega | trivial), (by first | assumption | omega | trivial), (by first | omega | assumption | (simp only [id])), (rfl)⟩))))) | exact Or.inr (Or.inr (Or.inr (Or.inr (Or.inr (Or.inl (⟨(by first | assumption | omega | trivial), (by first | assumption | omega | trivial), (by first | omega | assumption | (simp only [id])), (rfl)⟩)))))) | exact Or.inr (Or.inr (Or.inr (Or.inr (Or.inr (Or.inr (Or.inl (⟨(by first | assumption | omega | trivial), (by first | assumption | omega | trivial), (by first | omega | assumption | (simp only [id])), (rfl)⟩))))))) | exact Or.inr (Or.inr (Or.inr (Or.inr (Or.inr (Or.inr (Or.inr (Or.inl (⟨(by first | assumption | omega | trivial), (by first | assumption | omega | trivial), (by first | omega | assumption | (simp only [id])), (rfl)⟩)))))))) | exact Or.inr (Or.inr (Or.inr (Or.inr (Or.inr (Or.inr (Or.inr (Or.inr (Or.inl (⟨(by first | assumption | omega | trivial), (by first | assumption | omega | trivial), (by first | omega | assumption | (simp only [id])), (rfl)⟩))))))))) | exact Or.inr (Or.inr (Or.inr (Or.inr (Or.inr (Or.inr (Or.inr (Or.inr (Or.inr (⟨(by first | assumption | omega | trivial), (by first | assumption | omega | trivial), (by first | omega | assumption | (simp only [id])), (rfl)⟩)))))))))) dX5_commoner_8

/-- X5_row: its end -/
def po_X5_row (w : gW) (b0 : Nat) (b1 : Nat) (b2 : Nat) (b3 : Nat) (r : Int) (q : Int) : Int → gW → Prop := fun z w1 => ((¬ lyi (w 1) r) ∧ (z = -1) ∧ (w1 = w)) ∨ ((lyi (w 1) r) ∧ (q < 0 ∨ 6 < q) ∧ (z = -2) ∧ (w1 = w)) ∨ ((lyi (w 1) r) ∧ (q = 0) ∧ (z = gA (w 1) 8 r) ∧ (w1 = w)) ∨ ((lyi (w 1) r) ∧ (q = 1) ∧ (z = gA (w 1) 9 r) ∧ (w1 = w)) ∨ ((lyi (w 1) r) ∧ (q = 2) ∧ (z = gA (w 1) 10 r) ∧ (w1 = w)) ∨ ((lyi (w 1) r) ∧ (q = 3) ∧ ((z = 1 ∧ ¬ gA (w 1) 11 r = 0) ∨ (z = 0 ∧ gA (w 1) 11 r = 0)) ∧ (w1 = w)) ∨ ((lyi (w 1) r) ∧ (q = 4) ∧ ((z = 1 ∧ ¬ gA (w 1) 12 r = 0) ∨ (z = 0 ∧ gA (w 1) 12 r = 0)) ∧ (w1 = w)) ∨ ((lyi (w 1) r) ∧ (q = 5) ∧ ((z = 1 ∧ pDr (w 1) r) ∨ (z = 0 ∧ ¬ pDr (w 1) r)) ∧ (w1 = w)) ∨ ((lyi (w 1) r) ∧ (q = 6) ∧ (z = max 0 (40 - gA (w 1) 10 r)) ∧ (w1 = w))
theorem hdV_X5_row : yX5_row.cls = RX5 ∧ yX5_row.cls ≠ "java/lang/invoke/MethodHandle" ∧ yX5_row.cls ≠ "java/lang/invoke/VarHandle" ∧ (parseMethodDescriptor yX5_row.desc).map (fun d => d.parameters.length) = some 2 := by decide +kernel
set_option maxHeartbeats 4000000 in
set_option maxRecDepth 100000 in
theorem c_X5_row (l : Launch) (G : gG) (w : gW) {b0 : Nat} {b1 : Nat} {b2 : Nat} {b3 : Nat} (hO : okW w b0 b1 b2 b3) (r : Int) (q : Int) (rr : inR r) (rq : inR q) : mI l G yX5_row (wU yX5_row cX5_row 3 (some .int)) (rmL 4 76) [.ref (ad G 0 0), .int (iI r), .int (iI q)] w (po_X5_row w b0 b1 b2 b3 r q) := by
  refine mI_of (by decide +kernel) (Nat.le_of_ble_eq_true rfl) (fun p e s m args below meth c ls C0 hW hl => ?_)
  have hl : lv_has ls 3 [(0, .ref (ad G 0 0)), (1, .int (iI r)), (2, .int (iI q))] := hl
  have hx := C0.hx
  have hb := C0.hb
  obtain ⟨hp4, hh, hwfs, hs4, hl9⟩ := id hO
  obtain ⟨q0, q1, q2, q3, n1, n2, n3, n4, n5, n6⟩ := id hp4
  have hwf := hwfs 1 ms_1
  obtain ⟨⟨hs1, hs2⟩, ⟨hd1, hd2, hd3⟩, hwet, -, -, -, ⟨hr1, hr2⟩, ⟨hc1, hc2⟩, hds⟩ := id hwf
  have hu1 : ∀ (w : gW) (M : gM), up w 4 M 1 = w 1 := fun w M => up_n w M (by decide)
  have hu31 : ∀ (w : gW) (M : gM), up w b3 M 1 = w 1 := fun w M => up_n w M (by omega)
  have hu91 : ∀ (w : gW) (M : gM), up w 9 M 1 = w 1 := fun w M => up_n w M (by decide)
  have hu14 : ∀ (w : gW) (M : gM), up w 1 M 4 = w 4 := fun w M => up_n w M (by decide)
  have hu94 : ∀ (w : gW) (M : gM), up w 9 M 4 = w 4 := fun w M => up_n w M (by decide)
  have hu19 : ∀ (w : gW) (M : gM), up w 1 M 9 = w 9 := fun w M => up_n w M (by decide)
  have hu49 : ∀ (w : gW) (M : gM), up w 4 M 9 = w 9 := fun w M => up_n w M (by decide)
  have hu39 : ∀ (w : gW) (M : gM), up w b3 M 9 = w 9 := fun w M => up_n w M (by omega)
  have hu42 : ∀ (w : gW) (M : gM), up w 4 M 2 = w 2 := fun w M => up_n w M (by decide)
  have hu32 : ∀ (w : gW) (M : gM), up w b3 M 2 = w 2 := fun w M => up_n w M (by omega)
  have hu20 : ∀ (w : gW) (M : gM), up w 2 M 0 = w 0 := fun w M => up_n w M (by decide)
  have hu21 : ∀ (w : gW) (M : gM), up w 2 M 1 = w 1 := fun w M => up_n w M (by decide)
  have hu31b : ∀ (w : gW) (M : gM), up w 3 M 1 = w 1 := fun w M => up_n w M (by decide)
  have hu01 : ∀ (w : gW) (M : gM), up w 0 M 1 = w 1 := fun w M => up_n w M (by decide)
  have hu24 : ∀ (w : gW) (M : gM), up w 2 M 4 = w 4 := fun w M => up_n w M (by decide)
  have hu34 : ∀ (w : gW) (M : gM), up w 3 M 4 = w 4 := fun w M => up_n w M (by decide)
  refine lv_aload_n hx hb dX5_row_0 rfl (lv_at hl 0 rfl) ?_
  refine r_gR C0 hW (show 0 < 11 ∧ 0 < bs 0 from ⟨by decide, by decide⟩) rfl rfl hiX5 (k := 0) (by decide) kf_X5_12 rfl rfl rfl dX5_row_1 ?_
  refine r_gR C0 hW (show 1 < 11 ∧ 0 < bs 1 from ⟨by decide, by decide⟩) (ceX_m ms_1 G 0 _ _) rfl hiX3 (k := 6) (by decide) kf_X5_80 rfl rfl rfl dX5_row_4 ?_
  refine lv_iload_n hx hb dX5_row_7 rfl (lv_at hl 1 rfl) ?_
  refine k_Vi (j := 1) (k0 := 7) C0 hW (c_X4_isLying l G w ms_1 hwf r rr) km_X5_93 ki_X4_isLying ke_X4_isLying kn_X4 kc_X4_isLying rfl hdV_X4_isLying ⟨by decide, by decide⟩ (show 1 < 11 ∧ 7 < bs 1 from ⟨by decide, by decide⟩) (ceX_m ms_1 G 7 _ _) rfl rfl hl.1 rfl (Nat.le_of_ble_eq_true rfl) dX5_row_8 (fun z1 w1 H1 locs1 rz1 hp1 hW => ?_)
  obtain ⟨hp1, hq1⟩ := hp1
  subst hq1
  have rz1a := rz1.1
  have rz1b := rz1.2
  rcases hp1 with ⟨e1, hp1⟩ | ⟨e1, hp1⟩
  · subst e1
    obtain ⟨hp11, hp12, hp13⟩ := id hp1
    refine r_if_ne (tgt := 16) hx hb ⟨by omega, by omega⟩ dX5_row_11 (by decide) (fun _ => ?_) (fun q => absurd q (by decide))
    refine lv_iload_n hx hb dX5_row_16 rfl (lv_at hl 2 rfl) ?_
    by_cases c2 : q < 0 ∨ 6 < q
    · refine r_tabOut (tgt := 158) hx hb rq dX5_row_17 c2 (by decide) ?_
      refine r_bipush hx hb dX5_row_158 (by decide) ?_
      exact r_iret C0 hW ⟨by omega, by omega⟩ (by first | exact Or.inl (⟨(by first | assumption | omega | trivial), (by first | omega | assumption | (simp only [id])), (rfl)⟩) | exact Or.inr (Or.inl (⟨(by first | assumption | omega | trivial), (by first | assumption | omega | trivial), (by first | omega | assumption | (simp only [id])), (rfl)⟩)) | exact Or.inr (Or.inr (Or.inl (⟨(by first | assumption | omega | trivial), (by first | assumption | omega | trivial), (by first | omega | assumption | (simp only [id])), (rfl)⟩))) | exact Or.inr (Or.inr (Or.inr (Or.inl (⟨(by first | assumption | omega | trivial), (by first | assumption | omega | trivial), (by first | omega | assumption | (simp only [id])), (rfl)⟩)))) | exact Or.inr (Or.inr (Or.inr (Or.inr (Or.inl (⟨(by first | assumption | omega | trivial), (by first | assumption | omega | trivial), (by first | omega | assumption | (simp only [id])), (rfl)⟩))))) | exact Or.inr (Or.inr (Or.inr (Or.inr (Or.inr (Or.inl (⟨(by first | assumption | omega | trivial), (by first | assumption | omega | trivial), (by first | omega | assumption | (simp only [id])), (rfl)⟩)))))) | exact Or.inr (Or.inr (Or.inr (Or.inr (Or.inr (Or.inr (Or.inl (⟨(by first | assumption | omega | trivial), (by first | assumption | omega | trivial), (by first | omega | assumption | (simp only [id])), (rfl)⟩))))))) | exact Or.inr (Or.inr (Or.inr (Or.inr (Or.inr (Or.inr (Or.inr (Or.inl (⟨(by first | assumption | omega | trivial), (by first | assumption | omega | trivial), (by first | exact Or.inl ⟨rfl, by assumption⟩ | exact Or.inr ⟨rfl, by assumption⟩ | omega), (rfl)⟩))))))))) dX5_row_160
    have c2 : q = 0 ∨ q = 1 ∨ q = 2 ∨ q = 3 ∨ q = 4 ∨ q = 5 ∨ q = 6 := by omega
    rcases c2 with c2 | c2 | c2 | c2 | c2 | c2 | c2
    · refine r_tabIn (tgt := 60) hx hb rq dX5_row_17 (by omega) (by omega) (by rw [c2]; rfl) (by decide) ?_
      refine lv_aload_n hx hb dX5_row_60 rfl (lv_at hl 0 rfl) ?_
      refine r_gR C0 hW (show 0 < 11 ∧ 0 < bs 0 from ⟨by decide, by decide⟩) rfl rfl hiX5 (k := 0) (by decide) kf_X5_12 rfl rfl rfl dX5_row_61 ?_
      refine r_gR C0 hW (show 1 < 11 ∧ 0 < bs 1 from ⟨by decide, by decide⟩) (ceX_m ms_1 G 0 _ _) rfl hiX3 (k := 6) (by decide) kf_X5_80 rfl rfl rfl dX5_row_64 ?_
      refine r_gR C0 hW (show 1 < 11 ∧ 7 < bs 1 from ⟨by decide, by decide⟩) (ceX_m ms_1 G 7 _ _) rfl hiX4 (k := 0) (by decide) kf_X5_109 rfl rfl rfl dX5_row_67 ?_
      refine lv_iload_n hx hb dX5_row_70 rfl (lv_at hl 1 rfl) ?_
      refine r_ild C0 hW (show 1 < 11 ∧ 8 < bs 1 from ⟨by decide, by decide⟩) (ceX_m ms_1 G 8 _ _) (n := 120) (by omega) (by omega) (by omega) dX5_row_71 (fun z3 (hz3 : z3 = gA (w 1) 8 r) rz3 => ?_)
      have rz3a := rz3.1
      have rz3b := rz3.2
      exact r_iret C0 hW rz3 (by first | exact Or.inl (⟨(by first | assumption | omega | trivial), (by first | omega | assumption | (simp only [hz3])), (rfl)⟩) | exact Or.inr (Or.inl (⟨(by first | assumption | omega | trivial), (by first | assumption | omega | trivial), (by first | omega | assumption | (simp only [hz3])), (rfl)⟩)) | exact Or.inr (Or.inr (Or.inl (⟨(by first | assumption | omega | trivial), (by first | assumption | omega | trivial), (by first | omega | assumption | (simp only [hz3])), (rfl)⟩))) | exact Or.inr (Or.inr (Or.inr (Or.inl (⟨(by first | assumption | omega | trivial), (by first | assumption | omega | trivial), (by first | omega | assumption | (simp only [hz3])), (rfl)⟩)))) | exact Or.inr (Or.inr (Or.inr (Or.inr (Or.inl (⟨(by first | assumption | omega | trivial), (by first | assumption | omega | trivial), (by first | omega | assumption | (simp only [hz3])), (rfl)⟩))))) | exact Or.inr (Or.inr (Or.inr (Or.inr (Or.inr (Or.inl (⟨(by first | assumption | omega | trivial), (by first | assumption | omega | trivial), (by first | omega | assumption | (simp only [hz3])), (rfl)⟩)))))) | exact Or.inr (Or.inr (Or.inr (Or.inr (Or.inr (Or.inr (Or.inl (⟨(by first | assumption | omega | trivial), (by first | assumption | omega | trivial), (by first | omega | assumption | (simp only [hz3])), (rfl)⟩))))))) | exact Or.inr (Or.inr (Or.inr (Or.inr (Or.inr (Or.inr (Or.inr (Or.inl (⟨(by first | assumption | omega | trivial), (by first | assumption | omega | trivial), (by first | exact Or.inl ⟨rfl, by assumption⟩ | exact Or.inr ⟨rfl, by assumption⟩ | omega), (rfl)⟩))))))))) dX5_row_72
    · refine r_tabIn (tgt := 73) hx hb rq dX5_row_17 (by omega) (by omega) (by rw [c2]; rfl) (by decide) ?_
      refine lv_aload_n hx hb dX5_row_73 rfl (lv_at hl 0 rfl) ?_
      refine r_gR C0 hW (show 0 < 11 ∧ 0 < bs 0 from ⟨by decide, by decide⟩) rfl rfl hiX5 (k := 0) (by decide) kf_X5_12 rfl rfl rfl dX5_row_74 ?_
      refine r_gR C0 hW (show 1 < 11 ∧ 0 < bs 1 from ⟨by decide, by decide⟩) (ceX_m ms_1 G 0 _ _) rfl hiX3 (k := 6) (by decide) kf_X5_80 rfl rfl rfl dX5_row_77 ?_
      refine r_gR C0 hW (show 1 < 11 ∧ 7 < bs 1 from ⟨by decide, by decide⟩) (ceX_m ms_1 G 7 _ _) rfl hiX4 (k := 1) (by decide) kf_X5_192 rfl rfl rfl dX5_row_80 ?_
      refine lv_iload_n hx hb dX5_row_83 rfl (lv_at hl 1 rfl) ?_
      refine r_ild C0 hW (show 1 < 11 ∧ 9 < bs 1 from ⟨by decide, by decide⟩) (ceX_m ms_1 G 9 _ _) (n := 120) (by omega) (by omega) (by omega) dX5_row_84 (fun z4 (hz4 : z4 = gA (w 1) 9 r) rz4 => ?_)
      have rz4a := rz4.1
      have rz4b := rz4.2
      exact r_iret C0 hW rz4 (by first | exact Or.inl (⟨(by first | assumption | omega | trivial), (by first | omega | assumption | (simp only [hz4])), (rfl)⟩) | exact Or.inr (Or.inl (⟨(by first | assumption | omega | trivial), (by first | assumption | omega | trivial), (by first | omega | assumption | (simp only [hz4])), (rfl)⟩)) | exact Or.inr (Or.inr (Or.inl (⟨(by first | assumption | omega | trivial), (by first | assumption | omega | trivial), (by first | omega | assumption | (simp only [hz4])), (rfl)⟩))) | exact Or.inr (Or.inr (Or.inr (Or.inl (⟨(by first | assumption | omega | trivial), (by first | assumption | omega | trivial), (by first | omega | assumption | (simp only [hz4])), (rfl)⟩)))) | exact Or.inr (Or.inr (Or.inr (Or.inr (Or.inl (⟨(by first | assumption | omega | trivial), (by first | assumption | omega | trivial), (by first | omega | assumption | (simp only [hz4])), (rfl)⟩))))) | exact Or.inr (Or.inr (Or.inr (Or.inr (Or.inr (Or.inl (⟨(by first | assumption | omega | trivial), (by first | assumption | omega | trivial), (by first | omega | assumption | (simp only [hz4])), (rfl)⟩)))))) | exact Or.inr (Or.inr (Or.inr (Or.inr (Or.inr (Or.inr (Or.inl (⟨(by first | assumption | omega | trivial), (by first | assumption | omega | trivial), (by first | omega | assumption | (simp only [hz4])), (rfl)⟩))))))) | exact Or.inr (Or.inr (Or.inr (Or.inr (Or.inr (Or.inr (Or.inr (Or.inl (⟨(by first | assumption | omega | trivial), (by first | assumption | omega | trivial), (by first | exact Or.inl ⟨rfl, by assumption⟩ | exact Or.inr ⟨rfl, by assumption⟩ | omega), (rfl)⟩))))))))) dX5_row_85
    · refine r_tabIn (tgt := 86) hx hb rq dX5_row_17 (by omega) (by omega) (by rw [c2]; rfl) (by decide) ?_
      refine lv_aload_n hx hb dX5_row_86 rfl (lv_at hl 0 rfl) ?_
      refine r_gR C0 hW (show 0 < 11 ∧ 0 < bs 0 from ⟨by decide, by decide⟩) rfl rfl hiX5 (k := 0) (by decide) kf_X5_12 rfl rfl rfl dX5_row_87 ?_
      refine r_gR C0 hW (show 1 < 11 ∧ 0 < bs 1 from ⟨by decide, by decide⟩) (ceX_m ms_1 G 0 _ _) rfl hiX3 (k := 6) (by decide) kf_X5_80 rfl rfl rfl dX5_row_90 ?_
      refine r_gR C0 hW (show 1 < 11 ∧ 7 < bs 1 from ⟨by decide, by decide⟩) (ceX_m ms_1 G 7 _ _) rfl hiX4 (k := 2) (by decide) kf_X5_103 rfl rfl rfl dX5_row_93 ?_
      refine lv_iload_n hx hb dX5_row_96 rfl (lv_at hl 1 rfl) ?_
      refine r_ild C0 hW (show 1 < 11 ∧ 10 < bs 1 from ⟨by decide, by decide⟩) (ceX_m ms_1 G 10 _ _) (n := 120) (by omega) (by omega) (by omega) dX5_row_97 (fun z5 (hz5 : z5 = gA (w 1) 10 r) rz5 => ?_)
      have rz5a := rz5.1
      have rz5b := rz5.2
      exact r_iret C0 hW rz5 (by first | exact Or.inl (⟨(by first | assumption | omega | trivial), (by first | omega | assumption | (simp only [hz5])), (rfl)⟩) | exact Or.inr (Or.inl (⟨(by first | assumption | omega | trivial), (by first | assumption | omega | trivial), (by first | omega | assumption | (simp only [hz5])), (rfl)⟩)) | exact Or.inr (Or.inr (Or.inl (⟨(by first | assumption | omega | trivial), (by first | assumption | omega | trivial), (by first | omega | assumption | (simp only [hz5])), (rfl)⟩))) | exact Or.inr (Or.inr (Or.inr (Or.inl (⟨(by first | assumption | omega | trivial), (by first | assumption | omega | trivial), (by first | omega | assumption | (simp only [hz5])), (rfl)⟩)))) | exact Or.inr (Or.inr (Or.inr (Or.inr (Or.inl (⟨(by first | assumption | omega | trivial), (by first | assumption | omega | trivial), (by first | omega | assumption | (simp only [hz5])), (rfl)⟩))))) | exact Or.inr (Or.inr (Or.inr (Or.inr (Or.inr (Or.inl (⟨(by first | assumption | omega | trivial), (by first | assumption | omega | trivial), (by first | omega | assumption | (simp only [hz5])), (rfl)⟩)))))) | exact Or.inr (Or.inr (Or.inr (Or.inr (Or.inr (Or.inr (Or.inl (⟨(by first | assumption | omega | trivial), (by first | assumption | omega | trivial), (by first | omega | assumption | (simp only [hz5])), (rfl)⟩))))))) | exact Or.inr (Or.inr (Or.inr (Or.inr (Or.inr (Or.inr (Or.inr (Or.inl (⟨(by first | assumption | omega | trivial), (by first | assumption | omega | trivial), (by first | exact Or.inl ⟨rfl, by assumption⟩ | exact Or.inr ⟨rfl, by assumption⟩ | omega), (rfl)⟩))))))))) dX5_row_98
    · refine r_tabIn (tgt := 99) hx hb rq dX5_row_17 (by omega) (by omega) (by rw [c2]; rfl) (by decide) ?_
      refine lv_aload_n hx hb dX5_row_99 rfl (lv_at hl 0 rfl) ?_
      refine r_gR C0 hW (show 0 < 11 ∧ 0 < bs 0 from ⟨by decide, by decide⟩) rfl rfl hiX5 (k := 0) (by decide) kf_X5_12 rfl rfl rfl dX5_row_100 ?_
      refine r_gR C0 hW (show 1 < 11 ∧ 0 < bs 1 from ⟨by decide, by decide⟩) (ceX_m ms_1 G 0 _ _) rfl hiX3 (k := 6) (by decide) kf_X5_80 rfl rfl rfl dX5_row_103 ?_
      refine r_gR C0 hW (show 1 < 11 ∧ 7 < bs 1 from ⟨by decide, by decide⟩) (ceX_m ms_1 G 7 _ _) rfl hiX4 (k := 3) (by decide) kf_X5_100 rfl rfl rfl dX5_row_106 ?_
      refine lv_iload_n hx hb dX5_row_109 rfl (lv_at hl 1 rfl) ?_
      refine r_zld C0 hW (show 1 < 11 ∧ 11 < bs 1 from ⟨by decide, by decide⟩) (ceX_m ms_1 G 11 _ _) (n := 120) (by omega) (by omega) (by omega) dX5_row_110 (fun z6 (hz6 : z6 = gA (w 1) 11 r) rz6 => ?_)
      have rz6a := rz6.1
      have rz6b := rz6.2
      refine k_Si (host := "") C0 hW (As := [.int (iI z6)]) (c_X5_oneIf l G w z6 rz6) km_X5_188 ks_X5_oneIf kn_X5 kc_X5_oneIf rfl hdS_X5_oneIf ⟨by decide, by decide⟩ rfl hl.1 rfl (Nat.le_of_ble_eq_true rfl) dX5_row_111 (fun z7 w7 H1 locs1 rz7 hp7 hW => ?_)
      obtain ⟨hp7, hq7⟩ := hp7
      subst hq7
      have rz7a := rz7.1
      have rz7b := rz7.2
      rcases hp7 with ⟨e7, hp7⟩ | ⟨e7, hp7⟩
      · subst e7
        exact r_iret C0 hW ⟨by omega, by omega⟩ (by first | exact Or.inl (⟨(by first | assumption | omega | trivial), (by first | omega | assumption | (simp only [hz6])), (rfl)⟩) | exact Or.inr (Or.inl (⟨(by first | assumption | omega | trivial), (by first | assumption | omega | trivial), (by first | omega | assumption | (simp only [hz6])), (rfl)⟩)) | exact Or.inr (Or.inr (Or.inl (⟨(by first | assumption | omega | trivial), (by first | assumption | omega | trivial), (by first | omega | assumption | (simp only [hz6])), (rfl)⟩))) | exact Or.inr (Or.inr (Or.inr (Or.inl (⟨(by first | assumption | omega | trivial), (by first | assumption | omega | trivial), (by first | omega | assumption | (simp only [hz6])), (rfl)⟩)))) | exact Or.inr (Or.inr (Or.inr (Or.inr (Or.inl (⟨(by first | assumption | omega | trivial), (by first | assumption | omega | trivial), (by first | omega | assumption | (simp only [hz6])), (rfl)⟩))))) | exact Or.inr (Or.inr (Or.inr (Or.inr (Or.inr (Or.inl (⟨(by first | assumption | omega | trivial), (by first | assumption | omega | trivial), (by first | omega | assumption | (simp only [hz6])), (rfl)⟩)))))) | exact Or.inr (Or.inr (Or.inr (Or.inr (Or.inr (Or.inr (Or.inl (⟨(by first | assumption | omega | trivial), (by first | assumption | omega | trivial), (by first | omega | assumption | (simp only [hz6])), (rfl)⟩))))))) | exact Or.inr (Or.inr (Or.inr (Or.inr (Or.inr (Or.inr (Or.inr (Or.inl (⟨(by first | assumption | omega | trivial), (by first | assumption | omega | trivial), (by first | exact Or.inl ⟨rfl, by assumption⟩ | exact Or.inr ⟨rfl, by assumption⟩ | omega), (rfl)⟩))))))))) dX5_row_114
      · subst e7
        exact r_iret C0 hW ⟨by omega, by omega⟩ (by first | exact Or.inl (⟨(by first | assumption | omega | trivial), (by first | omega | assumption | (simp only [hz6])), (rfl)⟩) | exact Or.inr (Or.inl (⟨(by first | assumption | omega | trivial), (by first | assumption | omega | trivial), (by first | omega | assumption | (simp only [hz6])), (rfl)⟩)) | exact Or.inr (Or.inr (Or.inl (⟨(by first | assumption | omega | trivial), (by first | assumption | omega | trivial), (by first | omega | assumption | (simp only [hz6])), (rfl)⟩))) | exact Or.inr (Or.inr (Or.inr (Or.inl (⟨(by first | assumption | omega | trivial), (by first | assumption | omega | trivial), (by first | omega | assumption | (simp only [hz6])), (rfl)⟩)))) | exact Or.inr (Or.inr (Or.inr (Or.inr (Or.inl (⟨(by first | assumption | omega | trivial), (by first | assumption | omega | trivial), (by first | omega | assumption | (simp only [hz6])), (rfl)⟩))))) | exact Or.inr (Or.inr (Or.inr (Or.inr (Or.inr (Or.inl (⟨(by first | assumption | omega | trivial), (by first | assumption | omega | trivial), (by first | omega | assumption | (simp only [hz6])), (rfl)⟩)))))) | exact Or.inr (Or.inr (Or.inr (Or.inr (Or.inr (Or.inr (Or.inl (⟨(by first | assumption | omega | trivial), (by first | assumption | omega | trivial), (by first | omega | assumption | (simp only [hz6])), (rfl)⟩))))))) | exact Or.inr (Or.inr (Or.inr (Or.inr (Or.inr (Or.inr (Or.inr (Or.inl (⟨(by first | assumption | omega | trivial), (by first | assumption | omega | trivial), (by first | exact Or.inl ⟨rfl, by assumption⟩ | exact Or.inr ⟨rfl, by assumption⟩ | omega), (rfl)⟩))))))))) dX5_row_114
    · refine r_tabIn (tgt := 115) hx hb rq dX5_row_17 (by omega) (by omega) (by rw [c2]; rfl) (by decide) ?_
      refine lv_aload_n hx hb dX5_row_115 rfl (lv_at hl 0 rfl) ?_
      refine r_gR C0 hW (show 0 < 11 ∧ 0 < bs 0 from ⟨by decide, by decide⟩) rfl rfl hiX5 (k := 0) (by decide) kf_X5_12 rfl rfl rfl dX5_row_116 ?_
      refine r_gR C0 hW (show 1 < 11 ∧ 0 < bs 1 from ⟨by decide, by decide⟩) (ceX_m ms_1 G 0 _ _) rfl hiX3 (k := 6) (by decide) kf_X5_80 rfl rfl rfl dX5_row_119 ?_
      refine r_gR C0 hW (show 1 < 11 ∧ 7 < bs 1 from ⟨by decide, by decide⟩) (ceX_m ms_1 G 7 _ _) rfl hiX4 (k := 4) (by decide) kf_X5_96 rfl rfl rfl dX5_row_122 ?_
      refine lv_iload_n hx hb dX5_row_125 rfl (lv_at hl 1 rfl) ?_
      refine r_zld C0 hW (show 1 < 11 ∧ 12 < bs 1 from ⟨by decide, by decide⟩) (ceX_m ms_1 G 12 _ _) (n := 120) (by omega) (by omega) (by omega) dX5_row_126 (fun z8 (hz8 : z8 = gA (w 1) 12 r) rz8 => ?_)
      have rz8a := rz8.1
      have rz8b := rz8.2
      refine k_Si (host := "") C0 hW (As := [.int (iI z8)]) (c_X5_oneIf l G w z8 rz8) km_X5_188 ks_X5_oneIf kn_X5 kc_X5_oneIf rfl hdS_X5_oneIf ⟨by decide, by decide⟩ rfl hl.1 rfl (Nat.le_of_ble_eq_true rfl) dX5_row_127 (fun z9 w9 H1 locs1 rz9 hp9 hW => ?_)
      obtain ⟨hp9, hq9⟩ := hp9
      subst hq9
      have rz9a := rz9.1
      have rz9b := rz9.2
      rcases hp9 with ⟨e9, hp9⟩ | ⟨e9, hp9⟩
      · subst e9
        exact r_iret C0 hW ⟨by omega, by omega⟩ (by first | exact Or.inl (⟨(by first | assumption | omega | trivial), (by first | omega | assumption | (simp only [hz8])), (rfl)⟩) | exact Or.inr (Or.inl (⟨(by first | assumption | omega | trivial), (by first | assumption | omega | trivial), (by first | omega | assumption | (simp only [hz8])), (rfl)⟩)) | exact Or.inr (Or.inr (Or.inl (⟨(by first | assumption | omega | trivial), (by first | assumption | omega | trivial), (by first | omega | assumption | (simp only [hz8])), (rfl)⟩))) | exact Or.inr (Or.inr (Or.inr (Or.inl (⟨(by first | assumption | omega | trivial), (by first | assumption | omega | trivial), (by first | omega | assumption | (simp only [hz8])), (rfl)⟩)))) | exact Or.inr (Or.inr (Or.inr (Or.inr (Or.inl (⟨(by first | assumption | omega | trivial), (by first | assumption | omega | trivial), (by first | omega | assumption | (simp only [hz8])), (rfl)⟩))))) | exact Or.inr (Or.inr (Or.inr (Or.inr (Or.inr (Or.inl (⟨(by first | assumption | omega | trivial), (by first | assumption | omega | trivial), (by first | omega | assumption | (simp only [hz8])), (rfl)⟩)))))) | exact Or.inr (Or.inr (Or.inr (Or.inr (Or.inr (Or.inr (Or.inl (⟨(by first | assumption | omega | trivial), (by first | assumption | omega | trivial), (by first | omega | assumption | (simp only [hz8])), (rfl)⟩))))))) | exact Or.inr (Or.inr (Or.inr (Or.inr (Or.inr (Or.inr (Or.inr (Or.inl (⟨(by first | assumption | omega | trivial), (by first | assumption | omega | trivial), (by first | exact Or.inl ⟨rfl, by assumption⟩ | exact Or.inr ⟨rfl, by assumption⟩ | omega), (rfl)⟩))))))))) dX5_row_130
      · subst e9
        exact r_iret C0 hW ⟨by omega, by omega⟩ (by first | exact Or.inl (⟨(by first | assumption | omega | trivial), (by first | omega | assumption | (simp only [hz8])), (rfl)⟩) | exact Or.inr (Or.inl (⟨(by first | assumption | omega | trivial), (by first | assumption | omega | trivial), (by first | omega | assumption | (simp only [hz8])), (rfl)⟩)) | exact Or.inr (Or.inr (Or.inl (⟨(by first | assumption | omega | trivial), (by first | assumption | omega | trivial), (by first | omega | assumption | (simp only [hz8])), (rfl)⟩))) | exact Or.inr (Or.inr (Or.inr (Or.inl (⟨(by first | assumption | omega | trivial), (by first | assumption | omega | trivial), (by first | omega | assumption | (simp only [hz8])), (rfl)⟩)))) | exact Or.inr (Or.inr (Or.inr (Or.inr (Or.inl (⟨(by first | assumption | omega | trivial), (by first | assumption | omega | trivial), (by first | omega | assumption | (simp only [hz8])), (rfl)⟩))))) | exact Or.inr (Or.inr (Or.inr (Or.inr (Or.inr (Or.inl (⟨(by first | assumption | omega | trivial), (by first | assumption | omega | trivial), (by first | omega | assumption | (simp only [hz8])), (rfl)⟩)))))) | exact Or.inr (Or.inr (Or.inr (Or.inr (Or.inr (Or.inr (Or.inl (⟨(by first | assumption | omega | trivial), (by first | assumption | omega | trivial), (by first | omega | assumption | (simp only [hz8])), (rfl)⟩))))))) | exact Or.inr (Or.inr (Or.inr (Or.inr (Or.inr (Or.inr (Or.inr (Or.inl (⟨(by first | assumption | omega | trivial), (by first | assumption | omega | trivial), (by first | exact Or.inl ⟨rfl, by assumption⟩ | exact Or.inr ⟨rfl, by assumption⟩ | omega), (rfl)⟩))))))))) dX5_row_130
    · refine r_tabIn (tgt := 131) hx hb rq dX5_row_17 (by omega) (by omega) (by rw [c2]; rfl) (by decide) ?_
      refine lv_aload_n hx hb dX5_row_131 rfl (lv_at hl 0 rfl) ?_
      refine r_gR C0 hW (show 0 < 11 ∧ 0 < bs 0 from ⟨by decide, by decide⟩) rfl rfl hiX5 (k := 0) (by decide) kf_X5_12 rfl rfl rfl dX5_row_132 ?_
      refine r_gR C0 hW (show 1 < 11 ∧ 0 < bs 1 from ⟨by decide, by decide⟩) (ceX_m ms_1 G 0 _ _) rfl hiX3 (k := 6) (by decide) kf_X5_80 rfl rfl rfl dX5_row_135 ?_
      refine lv_iload_n hx hb dX5_row_138 rfl (lv_at hl 1 rfl) ?_
      refine k_Vi (j := 1) (k0 := 7) C0 hW (c_X4_isDry l G w ms_1 hwf r rr) km_X5_106 ki_X4_isDry ke_X4_isDry kn_X4 kc_X4_isDry rfl hdV_X4_isDry ⟨by decide, by decide⟩ (show 1 < 11 ∧ 7 < bs 1 from ⟨by decide, by decide⟩) (ceX_m ms_1 G 7 _ _) rfl rfl hl.1 rfl (Nat.le_of_ble_eq_true rfl) dX5_row_139 (fun z10 w10 H1 locs1 rz10 hp10 hW => ?_)
      obtain ⟨hp10, hq10⟩ := hp10
      subst hq10
      have rz10a := rz10.1
      have rz10b := rz10.2
      rcases hp10 with ⟨e10, hp10⟩ | ⟨e10, hp10⟩
      · subst e10
        refine k_Si (host := "") C0 hW (As := [.int (iI 1)]) (c_X5_oneIf l G w 1 ⟨by omega, by omega⟩) km_X5_188 ks_X5_oneIf kn_X5 kc_X5_oneIf rfl hdS_X5_oneIf ⟨by decide, by decide⟩ rfl hl.1 rfl (Nat.le_of_ble_eq_true rfl) dX5_row_142 (fun z11 w11 H1 locs1 rz11 hp11 hW => ?_)
        obtain ⟨hp11, hq11⟩ := hp11
        subst hq11
        have rz11a := rz11.1
        have rz11b := rz11.2
        rcases hp11 with ⟨e11, hp11⟩ | ⟨e11, hp11⟩
        · subst e11
          exact r_iret C0 hW ⟨by omega, by omega⟩ (by first | exact Or.inl (⟨(by first | assumption | omega | trivial), (by first | omega | assumption | (simp only [id])), (rfl)⟩) | exact Or.inr (Or.inl (⟨(by first | assumption | omega | trivial), (by first | assumption | omega | trivial), (by first | omega | assumption | (simp only [id])), (rfl)⟩)) | exact Or.inr (Or.inr (Or.inl (⟨(by first | assumption | omega | trivial), (by first | assumption | omega | trivial), (by first | omega | assumption | (simp only [id])), (rfl)⟩))) | exact Or.inr (Or.inr (Or.inr (Or.inl (⟨(by first | assumption | omega | trivial), (by first | assumption | omega | trivial), (by first | omega | assumption | (simp only [id])), (rfl)⟩)))) | exact Or.inr (Or.inr (Or.inr (Or.inr (Or.inl (⟨(by first | assumption | omega | trivial), (by first | assumption | omega | trivial), (by first | omega | assumption | (simp only [id])), (rfl)⟩))))) | exact Or.inr (Or.inr (Or.inr (Or.inr (Or.inr (Or.inl (⟨(by first | assumption | omega | trivial), (by first | assumption | omega | trivial), (by first | omega | assumption | (simp only [id])), (rfl)⟩)))))) | exact Or.inr (Or.inr (Or.inr (Or.inr (Or.inr (Or.inr (Or.inl (⟨(by first | assumption | omega | trivial), (by first | assumption | omega | trivial), (by first | omega | assumption | (simp only [id])), (rfl)⟩))))))) | exact Or.inr (Or.inr (Or.inr (Or.inr (Or.inr (Or.inr (Or.inr (Or.inl (⟨(by first | assumption | omega | trivial), (by first | assumption | omega | trivial), (by first | exact Or.inl ⟨rfl, by assumption⟩ | exact Or.inr ⟨rfl, by assumption⟩ | omega), (rfl)⟩))))))))) dX5_row_145
        · subst e11
          exact r_iret C0 hW ⟨by omega, by omega⟩ (by first | exact Or.inl (⟨(by first | assumption | omega | trivial), (by first | omega | assumption | (simp only [id])), (rfl)⟩) | exact Or.inr (Or.inl (⟨(by first | assumption | omega | trivial), (by first | assumption | omega | trivial), (by first | omega | assumption | (simp only [id])), (rfl)⟩)) | exact Or.inr (Or.inr (Or.inl (⟨(by first | assumption | omega | trivial), (by first | assumption | omega | trivial), (by first | omega | assumption | (simp only [id])), (rfl)⟩))) | exact Or.inr (Or.inr (Or.inr (Or.inl (⟨(by first | assumption | omega | trivial), (by first | assumption | omega | trivial), (by first | omega | assumption | (simp only [id])), (rfl)⟩)))) | exact Or.inr (Or.inr (Or.inr (Or.inr (Or.inl (⟨(by first | assumption | omega | trivial), (by first | assumption | omega | trivial), (by first | omega | assumption | (simp only [id])), (rfl)⟩))))) | exact Or.inr (Or.inr (Or.inr (Or.inr (Or.inr (Or.inl (⟨(by first | assumption | omega | trivial), (by first | assumption | omega | trivial), (by first | omega | assumption | (simp only [id])), (rfl)⟩)))))) | exact Or.inr (Or.inr (Or.inr (Or.inr (Or.inr (Or.inr (Or.inl (⟨(by first | assumption | omega | trivial), (by first | assumption | omega | trivial), (by first | omega | assumption | (simp only [id])), (rfl)⟩))))))) | exact Or.inr (Or.inr (Or.inr (Or.inr (Or.inr (Or.inr (Or.inr (Or.inl (⟨(by first | assumption | omega | trivial), (by first | assumption | omega | trivial), (by first | exact Or.inl ⟨rfl, by assumption⟩ | exact Or.inr ⟨rfl, by assumption⟩ | omega), (rfl)⟩))))))))) dX5_row_145
      · subst e10
        refine k_Si (host := "") C0 hW (As := [.int (iI 0)]) (c_X5_oneIf l G w 0 ⟨by omega, by omega⟩) km_X5_188 ks_X5_oneIf kn_X5 kc_X5_oneIf rfl hdS_X5_oneIf ⟨by decide, by decide⟩ rfl hl.1 rfl (Nat.le_of_ble_eq_true rfl) dX5_row_142 (fun z12 w12 H1 locs1 rz12 hp12 hW => ?_)
        obtain ⟨hp12, hq12⟩ := hp12
        subst hq12
        have rz12a := rz12.1
        have rz12b := rz12.2
        rcases hp12 with ⟨e12, hp12⟩ | ⟨e12, hp12⟩
        · subst e12
          exact r_iret C0 hW ⟨by omega, by omega⟩ (by first | exact Or.inl (⟨(by first | assumption | omega | trivial), (by first | omega | assumption | (simp only [id])), (rfl)⟩) | exact Or.inr (Or.inl (⟨(by first | assumption | omega | trivial), (by first | assumption | omega | trivial), (by first | omega | assumption | (simp only [id])), (rfl)⟩)) | exact Or.inr (Or.inr (Or.inl (⟨(by first | assumption | omega | trivial), (by first | assumption | omega | trivial), (by first | omega | assumption | (simp only [id])), (rfl)⟩))) | exact Or.inr (Or.inr (Or.inr (Or.inl (⟨(by first | assumption | omega | trivial), (by first | assumption | omega | trivial), (by first | omega | assumption | (simp only [id])), (rfl)⟩)))) | exact Or.inr (Or.inr (Or.inr (Or.inr (Or.inl (⟨(by first | assumption | omega | trivial), (by first | assumption | omega | trivial), (by first | omega | assumption | (simp only [id])), (rfl)⟩))))) | exact Or.inr (Or.inr (Or.inr (Or.inr (Or.inr (Or.inl (⟨(by first | assumption | omega | trivial), (by first | assumption | omega | trivial), (by first | omega | assumption | (simp only [id])), (rfl)⟩)))))) | exact Or.inr (Or.inr (Or.inr (Or.inr (Or.inr (Or.inr (Or.inl (⟨(by first | assumption | omega | trivial), (by first | assumption | omega | trivial), (by first | omega | assumption | (simp only [id])), (rfl)⟩))))))) | exact Or.inr (Or.inr (Or.inr (Or.inr (Or.inr (Or.inr (Or.inr (Or.inl (⟨(by first | assumption | omega | trivial), (by first | assumption | omega | trivial), (by first | exact Or.inl ⟨rfl, by assumption⟩ | exact Or.inr ⟨rfl, by assumption⟩ | omega), (rfl)⟩))))))))) dX5_row_145
        · subst e12
          exact r_iret C0 hW ⟨by omega, by omega⟩ (by first | exact Or.inl (⟨(by first | assumption | omega | trivial), (by first | omega | assumption | (simp only [id])), (rfl)⟩) | exact Or.inr (Or.inl (⟨(by first | assumption | omega | trivial), (by first | assumption | omega | trivial), (by first | omega | assumption | (simp only [id])), (rfl)⟩)) | exact Or.inr (Or.inr (Or.inl (⟨(by first | assumption | omega | trivial), (by first | assumption | omega | trivial), (by first | omega | assumption | (simp only [id])), (rfl)⟩))) | exact Or.inr (Or.inr (Or.inr (Or.inl (⟨(by first | assumption | omega | trivial), (by first | assumption | omega | trivial), (by first | omega | assumption | (simp only [id])), (rfl)⟩)))) | exact Or.inr (Or.inr (Or.inr (Or.inr (Or.inl (⟨(by first | assumption | omega | trivial), (by first | assumption | omega | trivial), (by first | omega | assumption | (simp only [id])), (rfl)⟩))))) | exact Or.inr (Or.inr (Or.inr (Or.inr (Or.inr (Or.inl (⟨(by first | assumption | omega | trivial), (by first | assumption | omega | trivial), (by first | omega | assumption | (simp only [id])), (rfl)⟩)))))) | exact Or.inr (Or.inr (Or.inr (Or.inr (Or.inr (Or.inr (Or.inl (⟨(by first | assumption | omega | trivial), (by first | assumption | omega | trivial), (by first | omega | assumption | (simp only [id])), (rfl)⟩))))))) | exact Or.inr (Or.inr (Or.inr (Or.inr (Or.inr (Or.inr (Or.inr (Or.inl (⟨(by first | assumption | omega | trivial), (by first | assumption | omega | trivial), (by first | exact Or.inl ⟨rfl, by assumption⟩ | exact Or.inr ⟨rfl, by assumption⟩ | omega), (rfl)⟩))))))))) dX5_row_145
    · refine r_tabIn (tgt := 146) hx hb rq dX5_row_17 (by omega) (by omega) (by rw [c2]; rfl) (by decide) ?_
      refine lv_aload_n hx hb dX5_row_146 rfl (lv_at hl 0 rfl) ?_
      refine r_gR C0 hW (show 0 < 11 ∧ 0 < bs 0 from ⟨by decide, by decide⟩) rfl rfl hiX5 (k := 0) (by decide) kf_X5_12 rfl rfl rfl dX5_row_147 ?_
      refine r_gR C0 hW (show 1 < 11 ∧ 0 < bs 1 from ⟨by decide, by decide⟩) (ceX_m ms_1 G 0 _ _) rfl hiX3 (k := 6) (by decide) kf_X5_80 rfl rfl rfl dX5_row_150 ?_
      refine lv_iload_n hx hb dX5_row_153 rfl (lv_at hl 1 rfl) ?_
      refine k_Vi (j := 1) (k0 := 7) C0 hW (c_X4_peatsAtHearth l G w ms_1 hwf r rr) km_X5_195 ki_X4_peatsAtHearth ke_X4_peatsAtHearth kn_X4 kc_X4_peatsAtHearth rfl hdV_X4_peatsAtHearth ⟨by decide, by decide⟩ (show 1 < 11 ∧ 7 < bs 1 from ⟨by decide, by decide⟩) (ceX_m ms_1 G 7 _ _) rfl rfl hl.1 rfl (Nat.le_of_ble_eq_true rfl) dX5_row_154 (fun z13 w13 H1 locs1 rz13 hp13 hW => ?_)
      obtain ⟨hp13, hq13⟩ := hp13
      subst hq13
      have rz13a := rz13.1
      have rz13b := rz13.2
      exact r_iret C0 hW rz13 (by first | exact Or.inl (⟨(by first | assumption | omega | trivial), (by first | omega | assumption | (simp only [id])), (rfl)⟩) | exact Or.inr (Or.inl (⟨(by first | assumption | omega | trivial), (by first | assumption | omega | trivial), (by first | omega | assumption | (simp only [id])), (rfl)⟩)) | exact Or.inr (Or.inr (Or.inl (⟨(by first | assumption | omega | trivial), (by first | assumption | omega | trivial), (by first | omega | assumption | (simp only [id])), (rfl)⟩))) | exact Or.inr (Or.inr (Or.inr (Or.inl (⟨(by first | assumption | omega | trivial), (by first | assumption | omega | trivial), (by first | omega | assumption | (simp only [id])), (rfl)⟩)))) | exact Or.inr (Or.inr (Or.inr (Or.inr (Or.inl (⟨(by first | assumption | omega | trivial), (by first | assumption | omega | trivial), (by first | omega | assumption | (simp only [id])), (rfl)⟩))))) | exact Or.inr (Or.inr (Or.inr (Or.inr (Or.inr (Or.inl (⟨(by first | assumption | omega | trivial), (by first | assumption | omega | trivial), (by first | omega | assumption | (simp only [id])), (rfl)⟩)))))) | exact Or.inr (Or.inr (Or.inr (Or.inr (Or.inr (Or.inr (Or.inl (⟨(by first | assumption | omega | trivial), (by first | assumption | omega | trivial), (by first | omega | assumption | (simp only [id])), (rfl)⟩))))))) | exact Or.inr (Or.inr (Or.inr (Or.inr (Or.inr (Or.inr (Or.inr (Or.inl (⟨(by first | assumption | omega | trivial), (by first | assumption | omega | trivial), (by first | exact Or.inl ⟨rfl, by assumption⟩ | exact Or.inr ⟨rfl, by assumption⟩ | omega), (rfl)⟩)))))))) | exact Or.inr (Or.inr (Or.inr (Or.inr (Or.inr (Or.inr (Or.inr (Or.inr (⟨(by first | assumption | omega | trivial), (by first | assumption | omega | trivial), ((hp13).elim (fun t => t.2) (fun t => absurd (by assumption) t.1)), (rfl)⟩))))))))) dX5_row_157
  · subst e1
    refine r_if_ne (tgt := 16) hx hb ⟨by omega, by omega⟩ dX5_row_11 (by decide) (fun q => absurd q (by decide)) (fun _ => ?_)
    refine r_iconst hx hb dX5_row_14 ?_
    exact r_iret C0 hW ⟨by omega, by omega⟩ (by first | exact Or.inl (⟨(by first | assumption | omega | trivial), (by first | omega | assumption | (simp only [id])), (rfl)⟩) | exact Or.inr (Or.inl (⟨(by first | assumption | omega | trivial), (by first | assumption | omega | trivial), (by first | omega | assumption | (simp only [id])), (rfl)⟩)) | exact Or.inr (Or.inr (Or.inl (⟨(by first | assumption | omega | trivial), (by first | assumption | omega | trivial), (by first | omega | assumption | (simp only [id])), (rfl)⟩))) | exact Or.inr (Or.inr (Or.inr (Or.inl (⟨(by first | assumption | omega | trivial), (by first | assumption | omega | trivial), (by first | omega | assumption | (simp only [id])), (rfl)⟩)))) | exact Or.inr (Or.inr (Or.inr (Or.inr (Or.inl (⟨(by first | assumption | omega | trivial), (by first | assumption | omega | trivial), (by first | omega | assumption | (simp only [id])), (rfl)⟩))))) | exact Or.inr (Or.inr (Or.inr (Or.inr (Or.inr (Or.inl (⟨(by first | assumption | omega | trivial), (by first | assumption | omega | trivial), (by first | omega | assumption | (simp only [id])), (rfl)⟩)))))) | exact Or.inr (Or.inr (Or.inr (Or.inr (Or.inr (Or.inr (Or.inl (⟨(by first | assumption | omega | trivial), (by first | assumption | omega | trivial), (by first | omega | assumption | (simp only [id])), (rfl)⟩))))))) | exact Or.inr (Or.inr (Or.inr (Or.inr (Or.inr (Or.inr (Or.inr (Or.inl (⟨(by first | assumption | omega | trivial), (by first | assumption | omega | trivial), (by first | exact Or.inl ⟨rfl, by assumption⟩ | exact Or.inr ⟨rfl, by assumption⟩ | omega), (rfl)⟩))))))))) dX5_row_15

/-- X5_dispute: its end -/
def po_X5_dispute (w : gW) (b0 : Nat) (b1 : Nat) (b2 : Nat) (b3 : Nat) (k : Int) (q : Int) : Int → gW → Prop := fun z w1 => ((k < 0 ∨ ¬ (0 ≤ q ∧ q ≤ 3)) ∧ (z = -2) ∧ (w1 = w)) ∨ ((0 ≤ k) ∧ (0 ≤ q ∧ q ≤ 3) ∧ (gN (w 1) 14 5 - gN (w 1) 14 4 ≤ k) ∧ (z = -5) ∧ (w1 = w)) ∨ ((0 ≤ k) ∧ (k < gN (w 1) 14 5 - gN (w 1) 14 4) ∧ (q = 0) ∧ (z = gA (w 1) 15 (gN (w 1) 14 4 + k)) ∧ (w1 = w)) ∨ ((0 ≤ k) ∧ (k < gN (w 1) 14 5 - gN (w 1) 14 4) ∧ (q = 1) ∧ (z = gA (w 1) 16 (gN (w 1) 14 4 + k)) ∧ (w1 = w)) ∨ ((0 ≤ k) ∧ (k < gN (w 1) 14 5 - gN (w 1) 14 4) ∧ (q = 2) ∧ (z = gA (w 1) 17 (gN (w 1) 14 4 + k)) ∧ (w1 = w)) ∨ ((0 ≤ k) ∧ (k < gN (w 1) 14 5 - gN (w 1) 14 4) ∧ (q = 3) ∧ (z = gA (w 1) 18 (gN (w 1) 14 4 + k)) ∧ (w1 = w))
theorem hdV_X5_dispute : yX5_dispute.cls = RX5 ∧ yX5_dispute.cls ≠ "java/lang/invoke/MethodHandle" ∧ yX5_dispute.cls ≠ "java/lang/invoke/VarHandle" ∧ (parseMethodDescriptor yX5_dispute.desc).map (fun d => d.parameters.length) = some 2 := by decide +kernel
set_option maxHeartbeats 4000000 in
set_option maxRecDepth 100000 in
theorem c_X5_dispute (l : Launch) (G : gG) (w : gW) {b0 : Nat} {b1 : Nat} {b2 : Nat} {b3 : Nat} (hO : okW w b0 b1 b2 b3) (k : Int) (q : Int) (rk : inR k) (rq : inR q) : mI l G yX5_dispute (wU yX5_dispute cX5_dispute 4 (some .int)) (rmL 4 75) [.ref (ad G 0 0), .int (iI k), .int (iI q)] w (po_X5_dispute w b0 b1 b2 b3 k q) := by
  refine mI_of (by decide +kernel) (Nat.le_of_ble_eq_true rfl) (fun p e s m args below meth c ls C0 hW hl => ?_)
  have hl : lv_has ls 4 [(0, .ref (ad G 0 0)), (1, .int (iI k)), (2, .int (iI q))] := hl
  have hx := C0.hx
  have hb := C0.hb
  obtain ⟨hp4, hh, hwfs, hs4, hl9⟩ := id hO
  obtain ⟨q0, q1, q2, q3, n1, n2, n3, n4, n5, n6⟩ := id hp4
  have hwf := hwfs 1 ms_1
  obtain ⟨⟨hs1, hs2⟩, ⟨hd1, hd2, hd3⟩, hwet, -, -, -, ⟨hr1, hr2⟩, ⟨hc1, hc2⟩, hds⟩ := id hwf
  have hu1 : ∀ (w : gW) (M : gM), up w 4 M 1 = w 1 := fun w M => up_n w M (by decide)
  have hu31 : ∀ (w : gW) (M : gM), up w b3 M 1 = w 1 := fun w M => up_n w M (by omega)
  have hu91 : ∀ (w : gW) (M : gM), up w 9 M 1 = w 1 := fun w M => up_n w M (by decide)
  have hu14 : ∀ (w : gW) (M : gM), up w 1 M 4 = w 4 := fun w M => up_n w M (by decide)
  have hu94 : ∀ (w : gW) (M : gM), up w 9 M 4 = w 4 := fun w M => up_n w M (by decide)
  have hu19 : ∀ (w : gW) (M : gM), up w 1 M 9 = w 9 := fun w M => up_n w M (by decide)
  have hu49 : ∀ (w : gW) (M : gM), up w 4 M 9 = w 9 := fun w M => up_n w M (by decide)
  have hu39 : ∀ (w : gW) (M : gM), up w b3 M 9 = w 9 := fun w M => up_n w M (by omega)
  have hu42 : ∀ (w : gW) (M : gM), up w 4 M 2 = w 2 := fun w M => up_n w M (by decide)
  have hu32 : ∀ (w : gW) (M : gM), up w b3 M 2 = w 2 := fun w M => up_n w M (by omega)
  have hu20 : ∀ (w : gW) (M : gM), up w 2 M 0 = w 0 := fun w M => up_n w M (by decide)
  have hu21 : ∀ (w : gW) (M : gM), up w 2 M 1 = w 1 := fun w M => up_n w M (by decide)
  have hu31b : ∀ (w : gW) (M : gM), up w 3 M 1 = w 1 := fun w M => up_n w M (by decide)
  have hu01 : ∀ (w : gW) (M : gM), up w 0 M 1 = w 1 := fun w M => up_n w M (by decide)
  have hu24 : ∀ (w : gW) (M : gM), up w 2 M 4 = w 4 := fun w M => up_n w M (by decide)
  have hu34 : ∀ (w : gW) (M : gM), up w 3 M 4 = w 4 := fun w M => up_n w M (by decide)
  refine lv_iload_n hx hb dX5_dispute_0 rfl (lv_at hl 1 rfl) ?_
  refine r_if_lt (tgt := 13) hx hb rk dX5_dispute_1 (by decide) (fun c1 => ?_) (fun c1 => ?_)
  · refine r_bipush hx hb dX5_dispute_13 (by decide) ?_
    exact r_iret C0 hW ⟨by omega, by omega⟩ (by first | exact Or.inl (⟨(by first | assumption | omega | trivial), (by first | omega | assumption | (simp only [id])), (rfl)⟩) | exact Or.inr (Or.inl (⟨(by first | assumption | omega | trivial), (by first | assumption | omega | trivial), (by first | assumption | omega | trivial), (by first | omega | assumption | (simp only [id])), (rfl)⟩)) | exact Or.inr (Or.inr (Or.inl (⟨(by first | assumption | omega | trivial), (by first | assumption | omega | trivial), (by first | assumption | omega | trivial), (by first | omega | assumption | (simp only [id])), (rfl)⟩))) | exact Or.inr (Or.inr (Or.inr (Or.inl (⟨(by first | assumption | omega | trivial), (by first | assumption | omega | trivial), (by first | assumption | omega | trivial), (by first | omega | assumption | (simp only [id])), (rfl)⟩)))) | exact Or.inr (Or.inr (Or.inr (Or.inr (Or.inl (⟨(by first | assumption | omega | trivial), (by first | assumption | omega | trivial), (by first | assumption | omega | trivial), (by first | omega | assumption | (simp only [id])), (rfl)⟩))))) | exact Or.inr (Or.inr (Or.inr (Or.inr (Or.inr (⟨(by first | assumption | omega | trivial), (by first | assumption | omega | trivial), (by first | assumption | omega | trivial), (by first | omega | assumption | (simp only [id])), (rfl)⟩)))))) dX5_dispute_15
  · refine lv_iload_n hx hb dX5_dispute_4 rfl (lv_at hl 2 rfl) ?_
    refine r_iconst hx hb dX5_dispute_5 ?_
    refine r_iconst hx hb dX5_dispute_6 ?_
    refine k_Si (host := "") C0 hW (As := [.int (iI q), .int (iI 0), .int (iI 3)]) (c_X5_isWithin l G w q 0 3 rq ⟨by omega, by omega⟩ ⟨by omega, by omega⟩) km_X5_58 ks_X5_isWithin kn_X5 kc_X5_isWithin rfl hdS_X5_isWithin ⟨by decide, by decide⟩ rfl hl.1 rfl (Nat.le_of_ble_eq_true rfl) dX5_dispute_7 (fun z2 w2 H1 locs1 rz2 hp2 hW => ?_)
    obtain ⟨hp2, hq2⟩ := hp2
    subst hq2
    have rz2a := rz2.1
    have rz2b := rz2.2
    rcases hp2 with ⟨e2, hp2⟩ | ⟨e2, hp2⟩
    · subst e2
      refine r_if_ne (tgt := 16) hx hb ⟨by omega, by omega⟩ dX5_dispute_10 (by decide) (fun _ => ?_) (fun q => absurd q (by decide))
      refine lv_aload_n hx hb dX5_dispute_16 rfl (lv_at hl 0 rfl) ?_
      refine r_gR C0 hW (show 0 < 11 ∧ 0 < bs 0 from ⟨by decide, by decide⟩) rfl rfl hiX5 (k := 0) (by decide) kf_X5_12 rfl rfl rfl dX5_dispute_17 ?_
      refine r_gR C0 hW (show 1 < 11 ∧ 0 < bs 1 from ⟨by decide, by decide⟩) (ceX_m ms_1 G 0 _ _) rfl hiX3 (k := 7) (by decide) kf_X5_135 rfl rfl rfl dX5_dispute_20 ?_
      refine lv_iload_n hx hb dX5_dispute_23 rfl (lv_at hl 1 rfl) ?_
      refine k_Vi (j := 1) (k0 := 14) C0 hW (c_X1_openOfRank l G w ms_1 hwf k rk) km_X5_201 ki_X1_openOfRank ke_X1_openOfRank kn_X1 kc_X1_openOfRank rfl hdV_X1_openOfRank ⟨by decide, by decide⟩ (show 1 < 11 ∧ 14 < bs 1 from ⟨by decide, by decide⟩) (ceX_m ms_1 G 14 _ _) rfl rfl hl.1 rfl (Nat.le_of_ble_eq_true rfl) dX5_dispute_24 (fun z3 w3 H1 locs1 rz3 hp3 hW => ?_)
      obtain ⟨hp3, hq3⟩ := hp3
      subst hq3
      have rz3a := rz3.1
      have rz3b := rz3.2
      refine lv_istore_n (lv' := [(3, .int (iI z3)), (0, .ref (ad G 0 0)), (1, .int (iI k)), (2, .int (iI q))]) hx hb dX5_dispute_27 rfl hl (by decide) rfl (fun ls hl => ?_)
      refine lv_iload_n hx hb dX5_dispute_28 rfl (lv_at hl 0 rfl) ?_
      refine r_bipush hx hb dX5_dispute_29 (by decide) ?_
      refine r_icmp_ne (tgt := 37) hx hb rz3 ⟨by omega, by omega⟩ dX5_dispute_31 (by decide) (fun c4 => ?_) (fun c4 => ?_)
      · have e24 : z3 = gN (w 1) 14 4 + k := by omega
        refine lv_iload_n hx hb dX5_dispute_37 rfl (lv_at hl 3 rfl) ?_
        by_cases c5 : q < 0 ∨ 2 < q
        · refine r_tabOut (tgt := 103) hx hb rq dX5_dispute_38 c5 (by decide) ?_
          refine lv_aload_n hx hb dX5_dispute_103 rfl (lv_at hl 1 rfl) ?_
          refine r_gR C0 hW (show 0 < 11 ∧ 0 < bs 0 from ⟨by decide, by decide⟩) rfl rfl hiX5 (k := 0) (by decide) kf_X5_12 rfl rfl rfl dX5_dispute_104 ?_
          refine r_gR C0 hW (show 1 < 11 ∧ 0 < bs 1 from ⟨by decide, by decide⟩) (ceX_m ms_1 G 0 _ _) rfl hiX3 (k := 7) (by decide) kf_X5_135 rfl rfl rfl dX5_dispute_107 ?_
          refine r_gR C0 hW (show 1 < 11 ∧ 14 < bs 1 from ⟨by decide, by decide⟩) (ceX_m ms_1 G 14 _ _) rfl hiX1 (k := 3) (by decide) kf_X5_213 rfl rfl rfl dX5_dispute_110 ?_
          refine lv_iload_n hx hb dX5_dispute_113 rfl (lv_at hl 0 rfl) ?_
          refine r_ild C0 hW (show 1 < 11 ∧ 18 < bs 1 from ⟨by decide, by decide⟩) (ceX_m ms_1 G 18 _ _) (n := 120) (by omega) (by omega) (by omega) dX5_dispute_114 (fun z6 (hz6 : z6 = gA (w 1) 18 z3) rz6 => ?_)
          have rz6a := rz6.1
          have rz6b := rz6.2
          exact r_iret C0 hW rz6 (by first | exact Or.inl (⟨(by first | assumption | omega | trivial), (by first | omega | assumption | (simp only [e24, hz6])), (rfl)⟩) | exact Or.inr (Or.inl (⟨(by first | assumption | omega | trivial), (by first | assumption | omega | trivial), (by first | assumption | omega | trivial), (by first | omega | assumption | (simp only [e24, hz6])), (rfl)⟩)) | exact Or.inr (Or.inr (Or.inl (⟨(by first | assumption | omega | trivial), (by first | assumption | omega | trivial), (by first | assumption | omega | trivial), (by first | omega | assumption | (simp only [e24, hz6])), (rfl)⟩))) | exact Or.inr (Or.inr (Or.inr (Or.inl (⟨(by first | assumption | omega | trivial), (by first | assumption | omega | trivial), (by first | assumption | omega | trivial), (by first | omega | assumption | (simp only [e24, hz6])), (rfl)⟩)))) | exact Or.inr (Or.inr (Or.inr (Or.inr (Or.inl (⟨(by first | assumption | omega | trivial), (by first | assumption | omega | trivial), (by first | assumption | omega | trivial), (by first | omega | assumption | (simp only [e24, hz6])), (rfl)⟩))))) | exact Or.inr (Or.inr (Or.inr (Or.inr (Or.inr (⟨(by first | assumption | omega | trivial), (by first | assumption | omega | trivial), (by first | assumption | omega | trivial), (by first | omega | assumption | (simp only [e24, hz6])), (rfl)⟩)))))) dX5_dispute_115
        have c5 : q = 0 ∨ q = 1 ∨ q = 2 := by omega
        rcases c5 with c5 | c5 | c5
        · refine r_tabIn (tgt := 64) hx hb rq dX5_dispute_38 (by omega) (by omega) (by rw [c5]; rfl) (by decide) ?_
          refine lv_aload_n hx hb dX5_dispute_64 rfl (lv_at hl 1 rfl) ?_
          refine r_gR C0 hW (show 0 < 11 ∧ 0 < bs 0 from ⟨by decide, by decide⟩) rfl rfl hiX5 (k := 0) (by decide) kf_X5_12 rfl rfl rfl dX5_dispute_65 ?_
          refine r_gR C0 hW (show 1 < 11 ∧ 0 < bs 1 from ⟨by decide, by decide⟩) (ceX_m ms_1 G 0 _ _) rfl hiX3 (k := 7) (by decide) kf_X5_135 rfl rfl rfl dX5_dispute_68 ?_
          refine r_gR C0 hW (show 1 < 11 ∧ 14 < bs 1 from ⟨by decide, by decide⟩) (ceX_m ms_1 G 14 _ _) rfl hiX1 (k := 0) (by decide) kf_X5_204 rfl rfl rfl dX5_dispute_71 ?_
          refine lv_iload_n hx hb dX5_dispute_74 rfl (lv_at hl 0 rfl) ?_
          refine r_ild C0 hW (show 1 < 11 ∧ 15 < bs 1 from ⟨by decide, by decide⟩) (ceX_m ms_1 G 15 _ _) (n := 120) (by omega) (by omega) (by omega) dX5_dispute_75 (fun z7 (hz7 : z7 = gA (w 1) 15 z3) rz7 => ?_)
          have rz7a := rz7.1
          have rz7b := rz7.2
          exact r_iret C0 hW rz7 (by first | exact Or.inl (⟨(by first | assumption | omega | trivial), (by first | omega | assumption | (simp only [e24, hz7])), (rfl)⟩) | exact Or.inr (Or.inl (⟨(by first | assumption | omega | trivial), (by first | assumption | omega | trivial), (by first | assumption | omega | trivial), (by first | omega | assumption | (simp only [e24, hz7])), (rfl)⟩)) | exact Or.inr (Or.inr (Or.inl (⟨(by first | assumption | omega | trivial), (by first | assumption | omega | trivial), (by first | assumption | omega | trivial), (by first | omega | assumption | (simp only [e24, hz7])), (rfl)⟩))) | exact Or.inr (Or.inr (Or.inr (Or.inl (⟨(by first | assumption | omega | trivial), (by first | assumption | omega | trivial), (by first | assumption | omega | trivial), (by first | omega | assumption | (simp only [e24, hz7])), (rfl)⟩)))) | exact Or.inr (Or.inr (Or.inr (Or.inr (Or.inl (⟨(by first | assumption | omega | trivial), (by first | assumption | omega | trivial), (by first | assumption | omega | trivial), (by first | omega | assumption | (simp only [e24, hz7])), (rfl)⟩))))) | exact Or.inr (Or.inr (Or.inr (Or.inr (Or.inr (⟨(by first | assumption | omega | trivial), (by first | assumption | omega | trivial), (by first | assumption | omega | trivial), (by first | omega | assumption | (simp only [e24, hz7])), (rfl)⟩)))))) dX5_dispute_76
        · refine r_tabIn (tgt := 77) hx hb rq dX5_dispute_38 (by omega) (by omega) (by rw [c5]; rfl) (by decide) ?_
          refine lv_aload_n hx hb dX5_dispute_77 rfl (lv_at hl 1 rfl) ?_
          refine r_gR C0 hW (show 0 < 11 ∧ 0 < bs 0 from ⟨by decide, by decide⟩) rfl rfl hiX5 (k := 0) (by decide) kf_X5_12 rfl rfl rfl dX5_dispute_78 ?_
          refine r_gR C0 hW (show 1 < 11 ∧ 0 < bs 1 from ⟨by decide, by decide⟩) (ceX_m ms_1 G 0 _ _) rfl hiX3 (k := 7) (by decide) kf_X5_135 rfl rfl rfl dX5_dispute_81 ?_
          refine r_gR C0 hW (show 1 < 11 ∧ 14 < bs 1 from ⟨by decide, by decide⟩) (ceX_m ms_1 G 14 _ _) rfl hiX1 (k := 1) (by decide) kf_X5_207 rfl rfl rfl dX5_dispute_84 ?_
          refine lv_iload_n hx hb dX5_dispute_87 rfl (lv_at hl 0 rfl) ?_
          refine r_ild C0 hW (show 1 < 11 ∧ 16 < bs 1 from ⟨by decide, by decide⟩) (ceX_m ms_1 G 16 _ _) (n := 120) (by omega) (by omega) (by omega) dX5_dispute_88 (fun z8 (hz8 : z8 = gA (w 1) 16 z3) rz8 => ?_)
          have rz8a := rz8.1
          have rz8b := rz8.2
          exact r_iret C0 hW rz8 (by first | exact Or.inl (⟨(by first | assumption | omega | trivial), (by first | omega | assumption | (simp only [e24, hz8])), (rfl)⟩) | exact Or.inr (Or.inl (⟨(by first | assumption | omega | trivial), (by first | assumption | omega | trivial), (by first | assumption | omega | trivial), (by first | omega | assumption | (simp only [e24, hz8])), (rfl)⟩)) | exact Or.inr (Or.inr (Or.inl (⟨(by first | assumption | omega | trivial), (by first | assumption | omega | trivial), (by first | assumption | omega | trivial), (by first | omega | assumption | (simp only [e24, hz8])), (rfl)⟩))) | exact Or.inr (Or.inr (Or.inr (Or.inl (⟨(by first | assumption | omega | trivial), (by first | assumption | omega | trivial), (by first | assumption | omega | trivial), (by first | omega | assumption | (simp only [e24, hz8])), (rfl)⟩)))) | exact Or.inr (Or.inr (Or.inr (Or.inr (Or.inl (⟨(by first | assumption | omega | trivial), (by first | assumption | omega | trivial), (by first | assumption | omega | trivial), (by first | omega | assumption | (simp only [e24, hz8])), (rfl)⟩))))) | exact Or.inr (Or.inr (Or.inr (Or.inr (Or.inr (⟨(by first | assumption | omega | trivial), (by first | assumption | omega | trivial), (by first | assumption | omega | trivial), (by first | omega | assumption | (simp only [e24, hz8])), (rfl)⟩)))))) dX5_dispute_89
        · refine r_tabIn (tgt := 90) hx hb rq dX5_dispute_38 (by omega) (by omega) (by rw [c5]; rfl) (by decide) ?_
          refine lv_aload_n hx hb dX5_dispute_90 rfl (lv_at hl 1 rfl) ?_
          refine r_gR C0 hW (show 0 < 11 ∧ 0 < bs 0 from ⟨by decide, by decide⟩) rfl rfl hiX5 (k := 0) (by decide) kf_X5_12 rfl rfl rfl dX5_dispute_91 ?_
          refine r_gR C0 hW (show 1 < 11 ∧ 0 < bs 1 from ⟨by decide, by decide⟩) (ceX_m ms_1 G 0 _ _) rfl hiX3 (k := 7) (by decide) kf_X5_135 rfl rfl rfl dX5_dispute_94 ?_
          refine r_gR C0 hW (show 1 < 11 ∧ 14 < bs 1 from ⟨by decide, by decide⟩) (ceX_m ms_1 G 14 _ _) rfl hiX1 (k := 2) (by decide) kf_X5_210 rfl rfl rfl dX5_dispute_97 ?_
          refine lv_iload_n hx hb dX5_dispute_100 rfl (lv_at hl 0 rfl) ?_
          refine r_ild C0 hW (show 1 < 11 ∧ 17 < bs 1 from ⟨by decide, by decide⟩) (ceX_m ms_1 G 17 _ _) (n := 120) (by omega) (by omega) (by omega) dX5_dispute_101 (fun z9 (hz9 : z9 = gA (w 1) 17 z3) rz9 => ?_)
          have rz9a := rz9.1
          have rz9b := rz9.2
          exact r_iret C0 hW rz9 (by first | exact Or.inl (⟨(by first | assumption | omega | trivial), (by first | omega | assumption | (simp only [e24, hz9])), (rfl)⟩) | exact Or.inr (Or.inl (⟨(by first | assumption | omega | trivial), (by first | assumption | omega | trivial), (by first | assumption | omega | trivial), (by first | omega | assumption | (simp only [e24, hz9])), (rfl)⟩)) | exact Or.inr (Or.inr (Or.inl (⟨(by first | assumption | omega | trivial), (by first | assumption | omega | trivial), (by first | assumption | omega | trivial), (by first | omega | assumption | (simp only [e24, hz9])), (rfl)⟩))) | exact Or.inr (Or.inr (Or.inr (Or.inl (⟨(by first | assumption | omega | trivial), (by first | assumption | omega | trivial), (by first | assumption | omega | trivial), (by first | omega | assumption | (simp only [e24, hz9])), (rfl)⟩)))) | exact Or.inr (Or.inr (Or.inr (Or.inr (Or.inl (⟨(by first | assumption | omega | trivial), (by first | assumption | omega | trivial), (by first | assumption | omega | trivial), (by first | omega | assumption | (simp only [e24, hz9])), (rfl)⟩))))) | exact Or.inr (Or.inr (Or.inr (Or.inr (Or.inr (⟨(by first | assumption | omega | trivial), (by first | assumption | omega | trivial), (by first | assumption | omega | trivial), (by first | omega | assumption | (simp only [e24, hz9])), (rfl)⟩)))))) dX5_dispute_102
      · refine r_bipush hx hb dX5_dispute_34 (by decide) ?_
        exact r_iret C0 hW ⟨by omega, by omega⟩ (by first | exact Or.inl (⟨(by first | assumption | omega | trivial), (by first | omega | assumption | (simp only [id])), (rfl)⟩) | exact Or.inr (Or.inl (⟨(by first | assumption | omega | trivial), (by first | assumption | omega | trivial), (by first | assumption | omega | trivial), (by first | omega | assumption | (simp only [id])), (rfl)⟩)) | exact Or.inr (Or.inr (Or.inl (⟨(by first | assumption | omega | trivial), (by first | assumption | omega | trivial), (by first | assumption | omega | trivial), (by first | omega | assumption | (simp only [id])), (rfl)⟩))) | exact Or.inr (Or.inr (Or.inr (Or.inl (⟨(by first | assumption | omega | trivial), (by first | assumption | omega | trivial), (by first | assumption | omega | trivial), (by first | omega | assumption | (simp only [id])), (rfl)⟩)))) | exact Or.inr (Or.inr (Or.inr (Or.inr (Or.inl (⟨(by first | assumption | omega | trivial), (by first | assumption | omega | trivial), (by first | assumption | omega | trivial), (by first | omega | assumption | (simp only [id])), (rfl)⟩))))) | exact Or.inr (Or.inr (Or.inr (Or.inr (Or.inr (⟨(by first | assumption | omega | trivial), (by first | assumption | omega | trivial), (by first | assumption | omega | trivial), (by first | omega | assumption | (simp only [id])), (rfl)⟩)))))) dX5_dispute_36
    · subst e2
      refine r_if_ne (tgt := 16) hx hb ⟨by omega, by omega⟩ dX5_dispute_10 (by decide) (fun q => absurd q (by decide)) (fun _ => ?_)
      refine r_bipush hx hb dX5_dispute_13 (by decide) ?_
      exact r_iret C0 hW ⟨by omega, by omega⟩ (by first | exact Or.inl (⟨(by first | assumption | omega | trivial), (by first | omega | assumption | (simp only [id])), (rfl)⟩) | exact Or.inr (Or.inl (⟨(by first | assumption | omega | trivial), (by first | assumption | omega | trivial), (by first | assumption | omega | trivial), (by first | omega | assumption | (simp only [id])), (rfl)⟩)) | exact Or.inr (Or.inr (Or.inl (⟨(by first | assumption | omega | trivial), (by first | assumption | omega | trivial), (by first | assumption | omega | trivial), (by first | omega | assumption | (simp only [id])), (rfl)⟩))) | exact Or.inr (Or.inr (Or.inr (Or.inl (⟨(by first | assumption | omega | trivial), (by first | assumption | omega | trivial), (by first | assumption | omega | trivial), (by first | omega | assumption | (simp only [id])), (rfl)⟩)))) | exact Or.inr (Or.inr (Or.inr (Or.inr (Or.inl (⟨(by first | assumption | omega | trivial), (by first | assumption | omega | trivial), (by first | assumption | omega | trivial), (by first | omega | assumption | (simp only [id])), (rfl)⟩))))) | exact Or.inr (Or.inr (Or.inr (Or.inr (Or.inr (⟨(by first | assumption | omega | trivial), (by first | assumption | omega | trivial), (by first | assumption | omega | trivial), (by first | omega | assumption | (simp only [id])), (rfl)⟩)))))) dX5_dispute_15


/-- X5_count: its end -/
def po_X5_count (w : gW) (b0 : Nat) (b1 : Nat) (b2 : Nat) (b3 : Nat) (q : Int) : Int → gW → Prop := fun z w1 => ((q < 0 ∨ 14 < q) ∧ (z = -2) ∧ (w1 = w)) ∨ ((q = 0) ∧ (z = gN (w 1) 0 11) ∧ (w1 = w)) ∨ ((q = 1) ∧ (z = gN (w 1) 0 12) ∧ (w1 = w)) ∨ ((q = 2) ∧ (z = cntI (pLy (w 1)) (gN (w 1) 7 6)) ∧ (w1 = w)) ∨ ((q = 3) ∧ (z = gN (w 1) 7 6) ∧ (w1 = w)) ∨ ((q = 4) ∧ (z = cntI (pSt (w 1)) (gN (w 1) 7 6)) ∧ (w1 = w)) ∨ ((q = 5) ∧ (z = cntI (pDr (w 1)) (gN (w 1) 7 6)) ∧ (w1 = w)) ∨ ((q = 6) ∧ (z = gN (w 1) 0 13) ∧ (w1 = w)) ∨ ((q = 7) ∧ (iI z = iI (sumX (gA (w 1) 6) ((10 : Nat) : Int))) ∧ (w1 = w)) ∨ ((q = 8) ∧ (iI z = iI (sumX (gA (w 1) 1) ((20 : Nat) : Int))) ∧ (w1 = w)) ∨ ((q = 9) ∧ (z = gN (w 1) 14 5 - gN (w 1) 14 4) ∧ (w1 = w)) ∨ ((q = 10) ∧ (z = gN (w 1) 14 5) ∧ (w1 = w)) ∨ ((q = 11) ∧ (z = gN (w 1) 0 8) ∧ (w1 = w)) ∨ ((q = 12) ∧ (z = gN (w 1) 0 9) ∧ (w1 = w)) ∨ ((q = 13) ∧ (z = gN (w 4) 0 4) ∧ (w1 = w)) ∨ ((q = 14) ∧ (z = gN (w 9) 0 1) ∧ (w1 = w))
theorem hdV_X5_count : yX5_count.cls = RX5 ∧ yX5_count.cls ≠ "java/lang/invoke/MethodHandle" ∧ yX5_count.cls ≠ "java/lang/invoke/VarHandle" ∧ (parseMethodDescriptor yX5_count.desc).map (fun d => d.parameters.length) = some 1 := by decide +kernel
set_option maxHeartbeats 4000000 in
set_option maxRecDepth 100000 in
theorem c_X5_count (l : Launch) (G : gG) (w : gW) {b0 : Nat} {b1 : Nat} {b2 : Nat} {b3 : Nat} (hO : okW w b0 b1 b2 b3) (q : Int) (rq : inR q) : mI l G yX5_count (wU yX5_count cX5_count 2 (some .int)) (rmL 5 99) [.ref (ad G 0 0), .int (iI q)] w (po_X5_count w b0 b1 b2 b3 q) := by
  refine mI_of (by decide +kernel) (Nat.le_of_ble_eq_true rfl) (fun p e s m args below meth c ls C0 hW hl => ?_)
  have hl : lv_has ls 2 [(0, .ref (ad G 0 0)), (1, .int (iI q))] := hl
  have hx := C0.hx
  have hb := C0.hb
  obtain ⟨hp4, hh, hwfs, hs4, hl9⟩ := id hO
  obtain ⟨q0, q1, q2, q3, n1, n2, n3, n4, n5, n6⟩ := id hp4
  have hwf := hwfs 1 ms_1
  obtain ⟨⟨hs1, hs2⟩, ⟨hd1, hd2, hd3⟩, hwet, -, -, -, ⟨hr1, hr2⟩, ⟨hc1, hc2⟩, hds⟩ := id hwf
  have hu1 : ∀ (w : gW) (M : gM), up w 4 M 1 = w 1 := fun w M => up_n w M (by decide)
  have hu31 : ∀ (w : gW) (M : gM), up w b3 M 1 = w 1 := fun w M => up_n w M (by omega)
  have hu91 : ∀ (w : gW) (M : gM), up w 9 M 1 = w 1 := fun w M => up_n w M (by decide)
  have hu14 : ∀ (w : gW) (M : gM), up w 1 M 4 = w 4 := fun w M => up_n w M (by decide)
  have hu94 : ∀ (w : gW) (M : gM), up w 9 M 4 = w 4 := fun w M => up_n w M (by decide)
  have hu19 : ∀ (w : gW) (M : gM), up w 1 M 9 = w 9 := fun w M => up_n w M (by decide)
  have hu49 : ∀ (w : gW) (M : gM), up w 4 M 9 = w 9 := fun w M => up_n w M (by decide)
  have hu39 : ∀ (w : gW) (M : gM), up w b3 M 9 = w 9 := fun w M => up_n w M (by omega)
  have hu42 : ∀ (w : gW) (M : gM), up w 4 M 2 = w 2 := fun w M => up_n w M (by decide)
  have hu32 : ∀ (w : gW) (M : gM), up w b3 M 2 = w 2 := fun w M => up_n w M (by omega)
  have hu20 : ∀ (w : gW) (M : gM), up w 2 M 0 = w 0 := fun w M => up_n w M (by decide)
  have hu21 : ∀ (w : gW) (M : gM), up w 2 M 1 = w 1 := fun w M => up_n w M (by decide)
  have hu31b : ∀ (w : gW) (M : gM), up w 3 M 1 = w 1 := fun w M => up_n w M (by decide)
  have hu01 : ∀ (w : gW) (M : gM), up w 0 M 1 = w 1 := fun w M => up_n w M (by decide)
  have hu24 : ∀ (w : gW) (M : gM), up w 2 M 4 = w 4 := fun w M => up_n w M (by decide)
  have hu34 : ∀ (w : gW) (M : gM), up w 3 M 4 = w 4 := fun w M => up_n w M (by decide)
  refine lv_iload_n hx hb dX5_count_0 rfl (lv_at hl 1 rfl) ?_
  by_cases c1 : q < 0 ∨ 14 < q
  · refine r_tabOut (tgt := 220) hx hb rq dX5_count_1 c1 (by decide) ?_
    refine r_bipush hx hb dX5_count_220 (by decide) ?_
    exact r_iret C0 hW ⟨by omega, by omega⟩ (by first | exact Or.inl (⟨(by first | assumption | omega | trivial), (by first | omega | assumption | (simp only [id])), (rfl)⟩) | exact Or.inr (Or.inl (⟨(by first | assumption | omega | trivial), (by first | omega | assumption | (simp only [id])), (rfl)⟩)) | exact Or.inr (Or.inr (Or.inl (⟨(by first | assumption | omega | trivial), (by first | omega | assumption | (simp only [id])), (rfl)⟩))) | exact Or.inr (Or.inr (Or.inr (Or.inl (⟨(by first | assumption | omega | trivial), (by first | omega | assumption | (simp only [id])), (rfl)⟩)))) | exact Or.inr (Or.inr (Or.inr (Or.inr (Or.inl (⟨(by first | assumption | omega | trivial), (by first | omega | assumption | (simp only [id])), (rfl)⟩))))) | exact Or.inr (Or.inr (Or.inr (Or.inr (Or.inr (Or.inl (⟨(by first | assumption | omega | trivial), (by first | omega | assumption | (simp only [id])), (rfl)⟩)))))) | exact Or.inr (Or.inr (Or.inr (Or.inr (Or.inr (Or.inr (Or.inl (⟨(by first | assumption | omega | trivial), (by first | omega | assumption | (simp only [id])), (rfl)⟩))))))) | exact Or.inr (Or.inr (Or.inr (Or.inr (Or.inr (Or.inr (Or.inr (Or.inl (⟨(by first | assumption | omega | trivial), (by first | omega | assumption | (simp only [id])), (rfl)⟩)))))))) | exact Or.inr (Or.inr (Or.inr (Or.inr (Or.inr (Or.inr (Or.inr (Or.inr (Or.inl (⟨(by first | assumption | omega | trivial), (by first | omega | assumption | (simp only [id])), (rfl)⟩))))))))) | exact Or.inr (Or.inr (Or.inr (Or.inr (Or.inr (Or.inr (Or.inr (Or.inr (Or.inr (Or.inl (⟨(by first | assumption | omega | trivial), (by first | omega | assumption | (simp only [id])), (rfl)⟩)))))))))) | exact Or.inr (Or.inr (Or.inr (Or.inr (Or.inr (Or.inr (Or.inr (Or.inr (Or.inr (Or.inr (Or.inl (⟨(by first | assumption | omega | trivial), (by first | omega | assumption | (simp only [id])), (rfl)⟩))))))))))) | exact Or.inr (Or.inr (Or.inr (Or.inr (Or.inr (Or.inr (Or.inr (Or.inr (Or.inr (Or.inr (Or.inr (Or.inl (⟨(by first | assumption | omega | trivial), (by first | omega | assumption | (simp only [id])), (rfl)⟩)))))))))))) | exact Or.inr (Or.inr (Or.inr (Or.inr (Or.inr (Or.inr (Or.inr (Or.inr (Or.inr (Or.inr (Or.inr (Or.inr (Or.inl (⟨(by first | assumption | omega | trivial), (by first | omega | assumption | (simp only [id])), (rfl)⟩))))))))))))) | exact Or.inr (Or.inr (Or.inr (Or.inr (Or.inr (Or.inr (Or.inr (Or.inr (Or.inr (Or.inr (Or.inr (Or.inr (Or.inr (Or.inl (⟨(by first | assumption | omega | trivial), (by first | omega | assumption | (simp only [id])), (rfl)⟩)))))))))))))) | exact Or.inr (Or.inr (Or.inr (Or.inr (Or.inr (Or.inr (Or.inr (Or.inr (Or.inr (Or.inr (Or.inr (Or.inr (Or.inr (Or.inr (Or.inl (⟨(by first | assumption | omega | trivial), (by first | omega | assumption | (simp only [id])), (rfl)⟩))))))))))))))) | exact Or.inr (Or.inr (Or.inr (Or.inr (Or.inr (Or.inr (Or.inr (Or.inr (Or.inr (Or.inr (Or.inr (Or.inr (Or.inr (Or.inr (Or.inr (⟨(by first | assumption | omega | trivial), (by first | omega | assumption | (simp only [id])), (rfl)⟩)))))))))))))))) dX5_count_222
  have c1 : q = 0 ∨ q = 1 ∨ q = 2 ∨ q = 3 ∨ q = 4 ∨ q = 5 ∨ q = 6 ∨ q = 7 ∨ q = 8 ∨ q = 9 ∨ q = 10 ∨ q = 11 ∨ q = 12 ∨ q = 13 ∨ q = 14 := by omega
  rcases c1 with c1 | c1 | c1 | c1 | c1 | c1 | c1 | c1 | c1 | c1 | c1 | c1 | c1 | c1 | c1
  · refine r_tabIn (tgt := 76) hx hb rq dX5_count_1 (by omega) (by omega) (by rw [c1]; rfl) (by decide) ?_
    refine lv_aload_n hx hb dX5_count_76 rfl (lv_at hl 0 rfl) ?_
    refine r_gR C0 hW (show 0 < 11 ∧ 0 < bs 0 from ⟨by decide, by decide⟩) rfl rfl hiX5 (k := 0) (by decide) kf_X5_12 rfl rfl rfl dX5_count_77 ?_
    refine r_gI C0 hW (show 1 < 11 ∧ 0 < bs 1 from ⟨by decide, by decide⟩) (ceX_m ms_1 G 0 _ _) rfl hiX3 (k := 11) (by decide) kf_X5_217 rfl rfl rfl dX5_count_80 (fun z2 (hz2 : z2 = gN (w 1) 0 11) rz2 => ?_)
    have rz2a := rz2.1
    have rz2b := rz2.2
    exact r_iret C0 hW rz2 (by first | exact Or.inl (⟨(by first | assumption | omega | trivial), (by first | omega | assumption | (simp only [hz2])), (rfl)⟩) | exact Or.inr (Or.inl (⟨(by first | assumption | omega | trivial), (by first | omega | assumption | (simp only [hz2])), (rfl)⟩)) | exact Or.inr (Or.inr (Or.inl (⟨(by first | assumption | omega | trivial), (by first | omega | assumption | (simp only [hz2])), (rfl)⟩))) | exact Or.inr (Or.inr (Or.inr (Or.inl (⟨(by first | assumption | omega | trivial), (by first | omega | assumption | (simp only [hz2])), (rfl)⟩)))) | exact Or.inr (Or.inr (Or.inr (Or.inr (Or.inl (⟨(by first | assumption | omega | trivial), (by first | omega | assumption | (simp only [hz2])), (rfl)⟩))))) | exact Or.inr (Or.inr (Or.inr (Or.inr (Or.inr (Or.inl (⟨(by first | assumption | omega | trivial), (by first | omega | assumption | (simp only [hz2])), (rfl)⟩)))))) | exact Or.inr (Or.inr (Or.inr (Or.inr (Or.inr (Or.inr (Or.inl (⟨(by first | assumption | omega | trivial), (by first | omega | assumption | (simp only [hz2])), (rfl)⟩))))))) | exact Or.inr (Or.inr (Or.inr (Or.inr (Or.inr (Or.inr (Or.inr (Or.inl (⟨(by first | assumption | omega | trivial), (by first | omega | assumption | (simp only [hz2])), (rfl)⟩)))))))) | exact Or.inr (Or.inr (Or.inr (Or.inr (Or.inr (Or.inr (Or.inr (Or.inr (Or.inl (⟨(by first | assumption | omega | trivial), (by first | omega | assumption | (simp only [hz2])), (rfl)⟩))))))))) | exact Or.inr (Or.inr (Or.inr (Or.inr (Or.inr (Or.inr (Or.inr (Or.inr (Or.inr (Or.inl (⟨(by first | assumption | omega | trivial), (by first | omega | assumption | (simp only [hz2])), (rfl)⟩)))))))))) | exact Or.inr (Or.inr (Or.inr (Or.inr (Or.inr (Or.inr (Or.inr (Or.inr (Or.inr (Or.inr (Or.inl (⟨(by first | assumption | omega | trivial), (by first | omega | assumption | (simp only [hz2])), (rfl)⟩))))))))))) | exact Or.inr (Or.inr (Or.inr (Or.inr (Or.inr (Or.inr (Or.inr (Or.inr (Or.inr (Or.inr (Or.inr (Or.inl (⟨(by first | assumption | omega | trivial), (by first | omega | assumption | (simp only [hz2])), (rfl)⟩)))))))))))) | exact Or.inr (Or.inr (Or.inr (Or.inr (Or.inr (Or.inr (Or.inr (Or.inr (Or.inr (Or.inr (Or.inr (Or.inr (Or.inl (⟨(by first | assumption | omega | trivial), (by first | omega | assumption | (simp only [hz2])), (rfl)⟩))))))))))))) | exact Or.inr (Or.inr (Or.inr (Or.inr (Or.inr (Or.inr (Or.inr (Or.inr (Or.inr (Or.inr (Or.inr (Or.inr (Or.inr (Or.inl (⟨(by first | assumption | omega | trivial), (by first | omega | assumption | (simp only [hz2])), (rfl)⟩)))))))))))))) | exact Or.inr (Or.inr (Or.inr (Or.inr (Or.inr (Or.inr (Or.inr (Or.inr (Or.inr (Or.inr (Or.inr (Or.inr (Or.inr (Or.inr (Or.inl (⟨(by first | assumption | omega | trivial), (by first | omega | assumption | (simp only [hz2])), (rfl)⟩))))))))))))))) | exact Or.inr (Or.inr (Or.inr (Or.inr (Or.inr (Or.inr (Or.inr (Or.inr (Or.inr (Or.inr (Or.inr (Or.inr (Or.inr (Or.inr (Or.inr (⟨(by first | assumption | omega | trivial), (by first | omega | assumption | (simp only [hz2])), (rfl)⟩)))))))))))))))) dX5_count_83
  · refine r_tabIn (tgt := 84) hx hb rq dX5_count_1 (by omega) (by omega) (by rw [c1]; rfl) (by decide) ?_
    refine lv_aload_n hx hb dX5_count_84 rfl (lv_at hl 0 rfl) ?_
    refine r_gR C0 hW (show 0 < 11 ∧ 0 < bs 0 from ⟨by decide, by decide⟩) rfl rfl hiX5 (k := 0) (by decide) kf_X5_12 rfl rfl rfl dX5_count_85 ?_
    refine r_gI C0 hW (show 1 < 11 ∧ 0 < bs 1 from ⟨by decide, by decide⟩) (ceX_m ms_1 G 0 _ _) rfl hiX3 (k := 12) (by decide) kf_X5_220 rfl rfl rfl dX5_count_88 (fun z3 (hz3 : z3 = gN (w 1) 0 12) rz3 => ?_)
    have rz3a := rz3.1
    have rz3b := rz3.2
    exact r_iret C0 hW rz3 (by first | exact Or.inl (⟨(by first | assumption | omega | trivial), (by first | omega | assumption | (simp only [hz3])), (rfl)⟩) | exact Or.inr (Or.inl (⟨(by first | assumption | omega | trivial), (by first | omega | assumption | (simp only [hz3])), (rfl)⟩)) | exact Or.inr (Or.inr (Or.inl (⟨(by first | assumption | omega | trivial), (by first | omega | assumption | (simp only [hz3])), (rfl)⟩))) | exact Or.inr (Or.inr (Or.inr (Or.inl (⟨(by first | assumption | omega | trivial), (by first | omega | assumption | (simp only [hz3])), (rfl)⟩)))) | exact Or.inr (Or.inr (Or.inr (Or.inr (Or.inl (⟨(by first | assumption | omega | trivial), (by first | omega | assumption | (simp only [hz3])), (rfl)⟩))))) | exact Or.inr (Or.inr (Or.inr (Or.inr (Or.inr (Or.inl (⟨(by first | assumption | omega | trivial), (by first | omega | assumption | (simp only [hz3])), (rfl)⟩)))))) | exact Or.inr (Or.inr (Or.inr (Or.inr (Or.inr (Or.inr (Or.inl (⟨(by first | assumption | omega | trivial), (by first | omega | assumption | (simp only [hz3])), (rfl)⟩))))))) | exact Or.inr (Or.inr (Or.inr (Or.inr (Or.inr (Or.inr (Or.inr (Or.inl (⟨(by first | assumption | omega | trivial), (by first | omega | assumption | (simp only [hz3])), (rfl)⟩)))))))) | exact Or.inr (Or.inr (Or.inr (Or.inr (Or.inr (Or.inr (Or.inr (Or.inr (Or.inl (⟨(by first | assumption | omega | trivial), (by first | omega | assumption | (simp only [hz3])), (rfl)⟩))))))))) | exact Or.inr (Or.inr (Or.inr (Or.inr (Or.inr (Or.inr (Or.inr (Or.inr (Or.inr (Or.inl (⟨(by first | assumption | omega | trivial), (by first | omega | assumption | (simp only [hz3])), (rfl)⟩)))))))))) | exact Or.inr (Or.inr (Or.inr (Or.inr (Or.inr (Or.inr (Or.inr (Or.inr (Or.inr (Or.inr (Or.inl (⟨(by first | assumption | omega | trivial), (by first | omega | assumption | (simp only [hz3])), (rfl)⟩))))))))))) | exact Or.inr (Or.inr (Or.inr (Or.inr (Or.inr (Or.inr (Or.inr (Or.inr (Or.inr (Or.inr (Or.inr (Or.inl (⟨(by first | assumption | omega | trivial), (by first | omega | assumption | (simp only [hz3])), (rfl)⟩)))))))))))) | exact Or.inr (Or.inr (Or.inr (Or.inr (Or.inr (Or.inr (Or.inr (Or.inr (Or.inr (Or.inr (Or.inr (Or.inr (Or.inl (⟨(by first | assumption | omega | trivial), (by first | omega | assumption | (simp only [hz3])), (rfl)⟩))))))))))))) | exact Or.inr (Or.inr (Or.inr (Or.inr (Or.inr (Or.inr (Or.inr (Or.inr (Or.inr (Or.inr (Or.inr (Or.inr (Or.inr (Or.inl (⟨(by first | assumption | omega | trivial), (by first | omega | assumption | (simp only [hz3])), (rfl)⟩)))))))))))))) | exact Or.inr (Or.inr (Or.inr (Or.inr (Or.inr (Or.inr (Or.inr (Or.inr (Or.inr (Or.inr (Or.inr (Or.inr (Or.inr (Or.inr (Or.inl (⟨(by first | assumption | omega | trivial), (by first | omega | assumption | (simp only [hz3])), (rfl)⟩))))))))))))))) | exact Or.inr (Or.inr (Or.inr (Or.inr (Or.inr (Or.inr (Or.inr (Or.inr (Or.inr (Or.inr (Or.inr (Or.inr (Or.inr (Or.inr (Or.inr (⟨(by first | assumption | omega | trivial), (by first | omega | assumption | (simp only [hz3])), (rfl)⟩)))))))))))))))) dX5_count_91
  · refine r_tabIn (tgt := 92) hx hb rq dX5_count_1 (by omega) (by omega) (by rw [c1]; rfl) (by decide) ?_
    refine lv_aload_n hx hb dX5_count_92 rfl (lv_at hl 0 rfl) ?_
    refine r_gR C0 hW (show 0 < 11 ∧ 0 < bs 0 from ⟨by decide, by decide⟩) rfl rfl hiX5 (k := 0) (by decide) kf_X5_12 rfl rfl rfl dX5_count_93 ?_
    refine r_gR C0 hW (show 1 < 11 ∧ 0 < bs 1 from ⟨by decide, by decide⟩) (ceX_m ms_1 G 0 _ _) rfl hiX3 (k := 6) (by decide) kf_X5_80 rfl rfl rfl dX5_count_96 ?_
    refine k_Vi (j := 1) (k0 := 7) C0 hW (c_X4_countLying l G w ms_1 hwf) km_X5_166 ki_X4_countLying ke_X4_countLying kn_X4 kc_X4_countLying rfl hdV_X4_countLying ⟨by decide, by decide⟩ (show 1 < 11 ∧ 7 < bs 1 from ⟨by decide, by decide⟩) (ceX_m ms_1 G 7 _ _) rfl rfl hl.1 rfl (Nat.le_of_ble_eq_true rfl) dX5_count_99 (fun z4 w4 H1 locs1 rz4 hp4 hW => ?_)
    obtain ⟨hp4, hq4⟩ := hp4
    subst hq4
    have rz4a := rz4.1
    have rz4b := rz4.2
    exact r_iret C0 hW rz4 (by first | exact Or.inl (⟨(by first | assumption | omega | trivial), (by first | omega | assumption | (simp only [id])), (rfl)⟩) | exact Or.inr (Or.inl (⟨(by first | assumption | omega | trivial), (by first | omega | assumption | (simp only [id])), (rfl)⟩)) | exact Or.inr (Or.inr (Or.inl (⟨(by first | assumption | omega | trivial), (by first | omega | assumption | (simp only [id])), (rfl)⟩))) | exact Or.inr (Or.inr (Or.inr (Or.inl (⟨(by first | assumption | omega | trivial), (by first | omega | assumption | (simp only [id])), (rfl)⟩)))) | exact Or.inr (Or.inr (Or.inr (Or.inr (Or.inl (⟨(by first | assumption | omega | trivial), (by first | omega | assumption | (simp only [id])), (rfl)⟩))))) | exact Or.inr (Or.inr (Or.inr (Or.inr (Or.inr (Or.inl (⟨(by first | assumption | omega | trivial), (by first | omega | assumption | (simp only [id])), (rfl)⟩)))))) | exact Or.inr (Or.inr (Or.inr (Or.inr (Or.inr (Or.inr (Or.inl (⟨(by first | assumption | omega | trivial), (by first | omega | assumption | (simp only [id])), (rfl)⟩))))))) | exact Or.inr (Or.inr (Or.inr (Or.inr (Or.inr (Or.inr (Or.inr (Or.inl (⟨(by first | assumption | omega | trivial), (by first | omega | assumption | (simp only [id])), (rfl)⟩)))))))) | exact Or.inr (Or.inr (Or.inr (Or.inr (Or.inr (Or.inr (Or.inr (Or.inr (Or.inl (⟨(by first | assumption | omega | trivial), (by first | omega | assumption | (simp only [id])), (rfl)⟩))))))))) | exact Or.inr (Or.inr (Or.inr (Or.inr (Or.inr (Or.inr (Or.inr (Or.inr (Or.inr (Or.inl (⟨(by first | assumption | omega | trivial), (by first | omega | assumption | (simp only [id])), (rfl)⟩)))))))))) | exact Or.inr (Or.inr (Or.inr (Or.inr (Or.inr (Or.inr (Or.inr (Or.inr (Or.inr (Or.inr (Or.inl (⟨(by first | assumption | omega | trivial), (by first | omega | assumption | (simp only [id])), (rfl)⟩))))))))))) | exact Or.inr (Or.inr (Or.inr (Or.inr (Or.inr (Or.inr (Or.inr (Or.inr (Or.inr (Or.inr (Or.inr (Or.inl (⟨(by first | assumption | omega | trivial), (by first | omega | assumption | (simp only [id])), (rfl)⟩)))))))))))) | exact Or.inr (Or.inr (Or.inr (Or.inr (Or.inr (Or.inr (Or.inr (Or.inr (Or.inr (Or.inr (Or.inr (Or.inr (Or.inl (⟨(by first | assumption | omega | trivial), (by first | omega | assumption | (simp only [id])), (rfl)⟩))))))))))))) | exact Or.inr (Or.inr (Or.inr (Or.inr (Or.inr (Or.inr (Or.inr (Or.inr (Or.inr (Or.inr (Or.inr (Or.inr (Or.inr (Or.inl (⟨(by first | assumption | omega | trivial), (by first | omega | assumption | (simp only [id])), (rfl)⟩)))))))))))))) | exact Or.inr (Or.inr (Or.inr (Or.inr (Or.inr (Or.inr (Or.inr (Or.inr (Or.inr (Or.inr (Or.inr (Or.inr (Or.inr (Or.inr (Or.inl (⟨(by first | assumption | omega | trivial), (by first | omega | assumption | (simp only [id])), (rfl)⟩))))))))))))))) | exact Or.inr (Or.inr (Or.inr (Or.inr (Or.inr (Or.inr (Or.inr (Or.inr (Or.inr (Or.inr (Or.inr (Or.inr (Or.inr (Or.inr (Or.inr (⟨(by first | assumption | omega | trivial), (by first | omega | assumption | (simp only [id])), (rfl)⟩)))))))))))))))) dX5_count_102
  · refine r_tabIn (tgt := 103) hx hb rq dX5_count_1 (by omega) (by omega) (by rw [c1]; rfl) (by decide) ?_
    refine lv_aload_n hx hb dX5_count_103 rfl (lv_at hl 0 rfl) ?_
    refine r_gR C0 hW (show 0 < 11 ∧ 0 < bs 0 from ⟨by decide, by decide⟩) rfl rfl hiX5 (k := 0) (by decide) kf_X5_12 rfl rfl rfl dX5_count_104 ?_
    refine r_gR C0 hW (show 1 < 11 ∧ 0 < bs 1 from ⟨by decide, by decide⟩) (ceX_m ms_1 G 0 _ _) rfl hiX3 (k := 6) (by decide) kf_X5_80 rfl rfl rfl dX5_count_107 ?_
    refine r_gI C0 hW (show 1 < 11 ∧ 7 < bs 1 from ⟨by decide, by decide⟩) (ceX_m ms_1 G 7 _ _) rfl hiX4 (k := 6) (by decide) kf_X5_223 rfl rfl rfl dX5_count_110 (fun z5 (hz5 : z5 = gN (w 1) 7 6) rz5 => ?_)
    have rz5a := rz5.1
    have rz5b := rz5.2
    exact r_iret C0 hW rz5 (by first | exact Or.inl (⟨(by first | assumption | omega | trivial), (by first | omega | assumption | (simp only [hz5])), (rfl)⟩) | exact Or.inr (Or.inl (⟨(by first | assumption | omega | trivial), (by first | omega | assumption | (simp only [hz5])), (rfl)⟩)) | exact Or.inr (Or.inr (Or.inl (⟨(by first | assumption | omega | trivial), (by first | omega | assumption | (simp only [hz5])), (rfl)⟩))) | exact Or.inr (Or.inr (Or.inr (Or.inl (⟨(by first | assumption | omega | trivial), (by first | omega | assumption | (simp only [hz5])), (rfl)⟩)))) | exact Or.inr (Or.inr (Or.inr (Or.inr (Or.inl (⟨(by first | assumption | omega | trivial), (by first | omega | assumption | (simp only [hz5])), (rfl)⟩))))) | exact Or.inr (Or.inr (Or.inr (Or.inr (Or.inr (Or.inl (⟨(by first | assumption | omega | trivial), (by first | omega | assumption | (simp only [hz5])), (rfl)⟩)))))) | exact Or.inr (Or.inr (Or.inr (Or.inr (Or.inr (Or.inr (Or.inl (⟨(by first | assumption | omega | trivial), (by first | omega | assumption | (simp only [hz5])), (rfl)⟩))))))) | exact Or.inr (Or.inr (Or.inr (Or.inr (Or.inr (Or.inr (Or.inr (Or.inl (⟨(by first | assumption | omega | trivial), (by first | omega | assumption | (simp only [hz5])), (rfl)⟩)))))))) | exact Or.inr (Or.inr (Or.inr (Or.inr (Or.inr (Or.inr (Or.inr (Or.inr (Or.inl (⟨(by first | assumption | omega | trivial), (by first | omega | assumption | (simp only [hz5])), (rfl)⟩))))))))) | exact Or.inr (Or.inr (Or.inr (Or.inr (Or.inr (Or.inr (Or.inr (Or.inr (Or.inr (Or.inl (⟨(by first | assumption | omega | trivial), (by first | omega | assumption | (simp only [hz5])), (rfl)⟩)))))))))) | exact Or.inr (Or.inr (Or.inr (Or.inr (Or.inr (Or.inr (Or.inr (Or.inr (Or.inr (Or.inr (Or.inl (⟨(by first | assumption | omega | trivial), (by first | omega | assumption | (simp only [hz5])), (rfl)⟩))))))))))) | exact Or.inr (Or.inr (Or.inr (Or.inr (Or.inr (Or.inr (Or.inr (Or.inr (Or.inr (Or.inr (Or.inr (Or.inl (⟨(by first | assumption | omega | trivial), (by first | omega | assumption | (simp only [hz5])), (rfl)⟩)))))))))))) | exact Or.inr (Or.inr (Or.inr (Or.inr (Or.inr (Or.inr (Or.inr (Or.inr (Or.inr (Or.inr (Or.inr (Or.inr (Or.inl (⟨(by first | assumption | omega | trivial), (by first | omega | assumption | (simp only [hz5])), (rfl)⟩))))))))))))) | exact Or.inr (Or.inr (Or.inr (Or.inr (Or.inr (Or.inr (Or.inr (Or.inr (Or.inr (Or.inr (Or.inr (Or.inr (Or.inr (Or.inl (⟨(by first | assumption | omega | trivial), (by first | omega | assumption | (simp only [hz5])), (rfl)⟩)))))))))))))) | exact Or.inr (Or.inr (Or.inr (Or.inr (Or.inr (Or.inr (Or.inr (Or.inr (Or.inr (Or.inr (Or.inr (Or.inr (Or.inr (Or.inr (Or.inl (⟨(by first | assumption | omega | trivial), (by first | omega | assumption | (simp only [hz5])), (rfl)⟩))))))))))))))) | exact Or.inr (Or.inr (Or.inr (Or.inr (Or.inr (Or.inr (Or.inr (Or.inr (Or.inr (Or.inr (Or.inr (Or.inr (Or.inr (Or.inr (Or.inr (⟨(by first | assumption | omega | trivial), (by first | omega | assumption | (simp only [hz5])), (rfl)⟩)))))))))))))))) dX5_count_113
  · refine r_tabIn (tgt := 114) hx hb rq dX5_count_1 (by omega) (by omega) (by rw [c1]; rfl) (by decide) ?_
    refine lv_aload_n hx hb dX5_count_114 rfl (lv_at hl 0 rfl) ?_
    refine r_gR C0 hW (show 0 < 11 ∧ 0 < bs 0 from ⟨by decide, by decide⟩) rfl rfl hiX5 (k := 0) (by decide) kf_X5_12 rfl rfl rfl dX5_count_115 ?_
    refine r_gR C0 hW (show 1 < 11 ∧ 0 < bs 1 from ⟨by decide, by decide⟩) (ceX_m ms_1 G 0 _ _) rfl hiX3 (k := 6) (by decide) kf_X5_80 rfl rfl rfl dX5_count_118 ?_
    refine k_Vi (j := 1) (k0 := 7) C0 hW (c_X4_countStacked l G w ms_1 hwf) km_X5_226 ki_X4_countStacked ke_X4_countStacked kn_X4 kc_X4_countStacked rfl hdV_X4_countStacked ⟨by decide, by decide⟩ (show 1 < 11 ∧ 7 < bs 1 from ⟨by decide, by decide⟩) (ceX_m ms_1 G 7 _ _) rfl rfl hl.1 rfl (Nat.le_of_ble_eq_true rfl) dX5_count_121 (fun z6 w6 H1 locs1 rz6 hp6 hW => ?_)
    obtain ⟨hp6, hq6⟩ := hp6
    subst hq6
    have rz6a := rz6.1
    have rz6b := rz6.2
    exact r_iret C0 hW rz6 (by first | exact Or.inl (⟨(by first | assumption | omega | trivial), (by first | omega | assumption | (simp only [id])), (rfl)⟩) | exact Or.inr (Or.inl (⟨(by first | assumption | omega | trivial), (by first | omega | assumption | (simp only [id])), (rfl)⟩)) | exact Or.inr (Or.inr (Or.inl (⟨(by first | assumption | omega | trivial), (by first | omega | assumption | (simp only [id])), (rfl)⟩))) | exact Or.inr (Or.inr (Or.inr (Or.inl (⟨(by first | assumption | omega | trivial), (by first | omega | assumption | (simp only [id])), (rfl)⟩)))) | exact Or.inr (Or.inr (Or.inr (Or.inr (Or.inl (⟨(by first | assumption | omega | trivial), (by first | omega | assumption | (simp only [id])), (rfl)⟩))))) | exact Or.inr (Or.inr (Or.inr (Or.inr (Or.inr (Or.inl (⟨(by first | assumption | omega | trivial), (by first | omega | assumption | (simp only [id])), (rfl)⟩)))))) | exact Or.inr (Or.inr (Or.inr (Or.inr (Or.inr (Or.inr (Or.inl (⟨(by first | assumption | omega | trivial), (by first | omega | assumption | (simp only [id])), (rfl)⟩))))))) | exact Or.inr (Or.inr (Or.inr (Or.inr (Or.inr (Or.inr (Or.inr (Or.inl (⟨(by first | assumption | omega | trivial), (by first | omega | assumption | (simp only [id])), (rfl)⟩)))))))) | exact Or.inr (Or.inr (Or.inr (Or.inr (Or.inr (Or.inr (Or.inr (Or.inr (Or.inl (⟨(by first | assumption | omega | trivial), (by first | omega | assumption | (simp only [id])), (rfl)⟩))))))))) | exact Or.inr (Or.inr (Or.inr (Or.inr (Or.inr (Or.inr (Or.inr (Or.inr (Or.inr (Or.inl (⟨(by first | assumption | omega | trivial), (by first | omega | assumption | (simp only [id])), (rfl)⟩)))))))))) | exact Or.inr (Or.inr (Or.inr (Or.inr (Or.inr (Or.inr (Or.inr (Or.inr (Or.inr (Or.inr (Or.inl (⟨(by first | assumption | omega | trivial), (by first | omega | assumption | (simp only [id])), (rfl)⟩))))))))))) | exact Or.inr (Or.inr (Or.inr (Or.inr (Or.inr (Or.inr (Or.inr (Or.inr (Or.inr (Or.inr (Or.inr (Or.inl (⟨(by first | assumption | omega | trivial), (by first | omega | assumption | (simp only [id])), (rfl)⟩)))))))))))) | exact Or.inr (Or.inr (Or.inr (Or.inr (Or.inr (Or.inr (Or.inr (Or.inr (Or.inr (Or.inr (Or.inr (Or.inr (Or.inl (⟨(by first | assumption | omega | trivial), (by first | omega | assumption | (simp only [id])), (rfl)⟩))))))))))))) | exact Or.inr (Or.inr (Or.inr (Or.inr (Or.inr (Or.inr (Or.inr (Or.inr (Or.inr (Or.inr (Or.inr (Or.inr (Or.inr (Or.inl (⟨(by first | assumption | omega | trivial), (by first | omega | assumption | (simp only [id])), (rfl)⟩)))))))))))))) | exact Or.inr (Or.inr (Or.inr (Or.inr (Or.inr (Or.inr (Or.inr (Or.inr (Or.inr (Or.inr (Or.inr (Or.inr (Or.inr (Or.inr (Or.inl (⟨(by first | assumption | omega | trivial), (by first | omega | assumption | (simp only [id])), (rfl)⟩))))))))))))))) | exact Or.inr (Or.inr (Or.inr (Or.inr (Or.inr (Or.inr (Or.inr (Or.inr (Or.inr (Or.inr (Or.inr (Or.inr (Or.inr (Or.inr (Or.inr (⟨(by first | assumption | omega | trivial), (by first | omega | assumption | (simp only [id])), (rfl)⟩)))))))))))))))) dX5_count_124
  · refine r_tabIn (tgt := 125) hx hb rq dX5_count_1 (by omega) (by omega) (by rw [c1]; rfl) (by decide) ?_
    refine lv_aload_n hx hb dX5_count_125 rfl (lv_at hl 0 rfl) ?_
    refine r_gR C0 hW (show 0 < 11 ∧ 0 < bs 0 from ⟨by decide, by decide⟩) rfl rfl hiX5 (k := 0) (by decide) kf_X5_12 rfl rfl rfl dX5_count_126 ?_
    refine r_gR C0 hW (show 1 < 11 ∧ 0 < bs 1 from ⟨by decide, by decide⟩) (ceX_m ms_1 G 0 _ _) rfl hiX3 (k := 6) (by decide) kf_X5_80 rfl rfl rfl dX5_count_129 ?_
    refine k_Vi (j := 1) (k0 := 7) C0 hW (c_X4_countDry l G w ms_1 hwf) km_X5_229 ki_X4_countDry ke_X4_countDry kn_X4 kc_X4_countDry rfl hdV_X4_countDry ⟨by decide, by decide⟩ (show 1 < 11 ∧ 7 < bs 1 from ⟨by decide, by decide⟩) (ceX_m ms_1 G 7 _ _) rfl rfl hl.1 rfl (Nat.le_of_ble_eq_true rfl) dX5_count_132 (fun z7 w7 H1 locs1 rz7 hp7 hW => ?_)
    obtain ⟨hp7, hq7⟩ := hp7
    subst hq7
    have rz7a := rz7.1
    have rz7b := rz7.2
    exact r_iret C0 hW rz7 (by first | exact Or.inl (⟨(by first | assumption | omega | trivial), (by first | omega | assumption | (simp only [id])), (rfl)⟩) | exact Or.inr (Or.inl (⟨(by first | assumption | omega | trivial), (by first | omega | assumption | (simp only [id])), (rfl)⟩)) | exact Or.inr (Or.inr (Or.inl (⟨(by first | assumption | omega | trivial), (by first | omega | assumption | (simp only [id])), (rfl)⟩))) | exact Or.inr (Or.inr (Or.inr (Or.inl (⟨(by first | assumption | omega | trivial), (by first | omega | assumption | (simp only [id])), (rfl)⟩)))) | exact Or.inr (Or.inr (Or.inr (Or.inr (Or.inl (⟨(by first | assumption | omega | trivial), (by first | omega | assumption | (simp only [id])), (rfl)⟩))))) | exact Or.inr (Or.inr (Or.inr (Or.inr (Or.inr (Or.inl (⟨(by first | assumption | omega | trivial), (by first | omega | assumption | (simp only [id])), (rfl)⟩)))))) | exact Or.inr (Or.inr (Or.inr (Or.inr (Or.inr (Or.inr (Or.inl (⟨(by first | assumption | omega | trivial), (by first | omega | assumption | (simp only [id])), (rfl)⟩))))))) | exact Or.inr (Or.inr (Or.inr (Or.inr (Or.inr (Or.inr (Or.inr (Or.inl (⟨(by first | assumption | omega | trivial), (by first | omega | assumption | (simp only [id])), (rfl)⟩)))))))) | exact Or.inr (Or.inr (Or.inr (Or.inr (Or.inr (Or.inr (Or.inr (Or.inr (Or.inl (⟨(by first | assumption | omega | trivial), (by first | omega | assumption | (simp only [id])), (rfl)⟩))))))))) | exact Or.inr (Or.inr (Or.inr (Or.inr (Or.inr (Or.inr (Or.inr (Or.inr (Or.inr (Or.inl (⟨(by first | assumption | omega | trivial), (by first | omega | assumption | (simp only [id])), (rfl)⟩)))))))))) | exact Or.inr (Or.inr (Or.inr (Or.inr (Or.inr (Or.inr (Or.inr (Or.inr (Or.inr (Or.inr (Or.inl (⟨(by first | assumption | omega | trivial), (by first | omega | assumption | (simp only [id])), (rfl)⟩))))))))))) | exact Or.inr (Or.inr (Or.inr (Or.inr (Or.inr (Or.inr (Or.inr (Or.inr (Or.inr (Or.inr (Or.inr (Or.inl (⟨(by first | assumption | omega | trivial), (by first | omega | assumption | (simp only [id])), (rfl)⟩)))))))))))) | exact Or.inr (Or.inr (Or.inr (Or.inr (Or.inr (Or.inr (Or.inr (Or.inr (Or.inr (Or.inr (Or.inr (Or.inr (Or.inl (⟨(by first | assumption | omega | trivial), (by first | omega | assumption | (simp only [id])), (rfl)⟩))))))))))))) | exact Or.inr (Or.inr (Or.inr (Or.inr (Or.inr (Or.inr (Or.inr (Or.inr (Or.inr (Or.inr (Or.inr (Or.inr (Or.inr (Or.inl (⟨(by first | assumption | omega | trivial), (by first | omega | assumption | (simp only [id])), (rfl)⟩)))))))))))))) | exact Or.inr (Or.inr (Or.inr (Or.inr (Or.inr (Or.inr (Or.inr (Or.inr (Or.inr (Or.inr (Or.inr (Or.inr (Or.inr (Or.inr (Or.inl (⟨(by first | assumption | omega | trivial), (by first | omega | assumption | (simp only [id])), (rfl)⟩))))))))))))))) | exact Or.inr (Or.inr (Or.inr (Or.inr (Or.inr (Or.inr (Or.inr (Or.inr (Or.inr (Or.inr (Or.inr (Or.inr (Or.inr (Or.inr (Or.inr (⟨(by first | assumption | omega | trivial), (by first | omega | assumption | (simp only [id])), (rfl)⟩)))))))))))))))) dX5_count_135
  · refine r_tabIn (tgt := 136) hx hb rq dX5_count_1 (by omega) (by omega) (by rw [c1]; rfl) (by decide) ?_
    refine lv_aload_n hx hb dX5_count_136 rfl (lv_at hl 0 rfl) ?_
    refine r_gR C0 hW (show 0 < 11 ∧ 0 < bs 0 from ⟨by decide, by decide⟩) rfl rfl hiX5 (k := 0) (by decide) kf_X5_12 rfl rfl rfl dX5_count_137 ?_
    refine r_gI C0 hW (show 1 < 11 ∧ 0 < bs 1 from ⟨by decide, by decide⟩) (ceX_m ms_1 G 0 _ _) rfl hiX3 (k := 13) (by decide) kf_X5_232 rfl rfl rfl dX5_count_140 (fun z8 (hz8 : z8 = gN (w 1) 0 13) rz8 => ?_)
    have rz8a := rz8.1
    have rz8b := rz8.2
    exact r_iret C0 hW rz8 (by first | exact Or.inl (⟨(by first | assumption | omega | trivial), (by first | omega | assumption | (simp only [hz8])), (rfl)⟩) | exact Or.inr (Or.inl (⟨(by first | assumption | omega | trivial), (by first | omega | assumption | (simp only [hz8])), (rfl)⟩)) | exact Or.inr (Or.inr (Or.inl (⟨(by first | assumption | omega | trivial), (by first | omega | assumption | (simp only [hz8])), (rfl)⟩))) | exact Or.inr (Or.inr (Or.inr (Or.inl (⟨(by first | assumption | omega | trivial), (by first | omega | assumption | (simp only [hz8])), (rfl)⟩)))) | exact Or.inr (Or.inr (Or.inr (Or.inr (Or.inl (⟨(by first | assumption | omega | trivial), (by first | omega | assumption | (simp only [hz8])), (rfl)⟩))))) | exact Or.inr (Or.inr (Or.inr (Or.inr (Or.inr (Or.inl (⟨(by first | assumption | omega | trivial), (by first | omega | assumption | (simp only [hz8])), (rfl)⟩)))))) | exact Or.inr (Or.inr (Or.inr (Or.inr (Or.inr (Or.inr (Or.inl (⟨(by first | assumption | omega | trivial), (by first | omega | assumption | (simp only [hz8])), (rfl)⟩))))))) | exact Or.inr (Or.inr (Or.inr (Or.inr (Or.inr (Or.inr (Or.inr (Or.inl (⟨(by first | assumption | omega | trivial), (by first | omega | assumption | (simp only [hz8])), (rfl)⟩)))))))) | exact Or.inr (Or.inr (Or.inr (Or.inr (Or.inr (Or.inr (Or.inr (Or.inr (Or.inl (⟨(by first | assumption | omega | trivial), (by first | omega | assumption | (simp only [hz8])), (rfl)⟩))))))))) | exact Or.inr (Or.inr (Or.inr (Or.inr (Or.inr (Or.inr (Or.inr (Or.inr (Or.inr (Or.inl (⟨(by first | assumption | omega | trivial), (by first | omega | assumption | (simp only [hz8])), (rfl)⟩)))))))))) | exact Or.inr (Or.inr (Or.inr (Or.inr (Or.inr (Or.inr (Or.inr (Or.inr (Or.inr (Or.inr (Or.inl (⟨(by first | assumption | omega | trivial), (by first | omega | assumption | (simp only [hz8])), (rfl)⟩))))))))))) | exact Or.inr (Or.inr (Or.inr (Or.inr (Or.inr (Or.inr (Or.inr (Or.inr (Or.inr (Or.inr (Or.inr (Or.inl (⟨(by first | assumption | omega | trivial), (by first | omega | assumption | (simp only [hz8])), (rfl)⟩)))))))))))) | exact Or.inr (Or.inr (Or.inr (Or.inr (Or.inr (Or.inr (Or.inr (Or.inr (Or.inr (Or.inr (Or.inr (Or.inr (Or.inl (⟨(by first | assumption | omega | trivial), (by first | omega | assumption | (simp only [hz8])), (rfl)⟩))))))))))))) | exact Or.inr (Or.inr (Or.inr (Or.inr (Or.inr (Or.inr (Or.inr (Or.inr (Or.inr (Or.inr (Or.inr (Or.inr (Or.inr (Or.inl (⟨(by first | assumption | omega | trivial), (by first | omega | assumption | (simp only [hz8])), (rfl)⟩)))))))))))))) | exact Or.inr (Or.inr (Or.inr (Or.inr (Or.inr (Or.inr (Or.inr (Or.inr (Or.inr (Or.inr (Or.inr (Or.inr (Or.inr (Or.inr (Or.inl (⟨(by first | assumption | omega | trivial), (by first | omega | assumption | (simp only [hz8])), (rfl)⟩))))))))))))))) | exact Or.inr (Or.inr (Or.inr (Or.inr (Or.inr (Or.inr (Or.inr (Or.inr (Or.inr (Or.inr (Or.inr (Or.inr (Or.inr (Or.inr (Or.inr (⟨(by first | assumption | omega | trivial), (by first | omega | assumption | (simp only [hz8])), (rfl)⟩)))))))))))))))) dX5_count_143
  · refine r_tabIn (tgt := 144) hx hb rq dX5_count_1 (by omega) (by omega) (by rw [c1]; rfl) (by decide) ?_
    refine lv_aload_n hx hb dX5_count_144 rfl (lv_at hl 0 rfl) ?_
    refine r_gR C0 hW (show 0 < 11 ∧ 0 < bs 0 from ⟨by decide, by decide⟩) rfl rfl hiX5 (k := 0) (by decide) kf_X5_12 rfl rfl rfl dX5_count_145 ?_
    refine r_gR C0 hW (show 1 < 11 ∧ 0 < bs 1 from ⟨by decide, by decide⟩) (ceX_m ms_1 G 0 _ _) rfl hiX3 (k := 5) (by decide) kf_X5_172 rfl rfl rfl dX5_count_148 ?_
    refine k_Si (host := "") C0 hW (As := [.ref (ad G 1 6)]) (c_X5_sumOf l G w 10 (show 1 < 11 ∧ 6 < bs 1 from ⟨by decide, by decide⟩) (by omega) (fun A => (ceX_m ms_1 G 6 _ _))) km_X5_235 ks_X5_sumOf kn_X5 kc_X5_sumOf rfl hdS_X5_sumOf ⟨by decide, by decide⟩ rfl hl.1 rfl (Nat.le_of_ble_eq_true rfl) dX5_count_151 (fun z9 w9 H1 locs1 rz9 hp9 hW => ?_)
    obtain ⟨hp9, hq9⟩ := hp9
    subst hq9
    have rz9a := rz9.1
    have rz9b := rz9.2
    exact r_iret C0 hW rz9 (by first | exact Or.inl (⟨(by first | assumption | omega | trivial), (by first | omega | assumption | (simp only [id])), (rfl)⟩) | exact Or.inr (Or.inl (⟨(by first | assumption | omega | trivial), (by first | omega | assumption | (simp only [id])), (rfl)⟩)) | exact Or.inr (Or.inr (Or.inl (⟨(by first | assumption | omega | trivial), (by first | omega | assumption | (simp only [id])), (rfl)⟩))) | exact Or.inr (Or.inr (Or.inr (Or.inl (⟨(by first | assumption | omega | trivial), (by first | omega | assumption | (simp only [id])), (rfl)⟩)))) | exact Or.inr (Or.inr (Or.inr (Or.inr (Or.inl (⟨(by first | assumption | omega | trivial), (by first | omega | assumption | (simp only [id])), (rfl)⟩))))) | exact Or.inr (Or.inr (Or.inr (Or.inr (Or.inr (Or.inl (⟨(by first | assumption | omega | trivial), (by first | omega | assumption | (simp only [id])), (rfl)⟩)))))) | exact Or.inr (Or.inr (Or.inr (Or.inr (Or.inr (Or.inr (Or.inl (⟨(by first | assumption | omega | trivial), (by first | omega | assumption | (simp only [id])), (rfl)⟩))))))) | exact Or.inr (Or.inr (Or.inr (Or.inr (Or.inr (Or.inr (Or.inr (Or.inl (⟨(by first | assumption | omega | trivial), (by first | omega | assumption | (simp only [id])), (rfl)⟩)))))))) | exact Or.inr (Or.inr (Or.inr (Or.inr (Or.inr (Or.inr (Or.inr (Or.inr (Or.inl (⟨(by first | assumption | omega | trivial), (by first | omega | assumption | (simp only [id])), (rfl)⟩))))))))) | exact Or.inr (Or.inr (Or.inr (Or.inr (Or.inr (Or.inr (Or.inr (Or.inr (Or.inr (Or.inl (⟨(by first | assumption | omega | trivial), (by first | omega | assumption | (simp only [id])), (rfl)⟩)))))))))) | exact Or.inr (Or.inr (Or.inr (Or.inr (Or.inr (Or.inr (Or.inr (Or.inr (Or.inr (Or.inr (Or.inl (⟨(by first | assumption | omega | trivial), (by first | omega | assumption | (simp only [id])), (rfl)⟩))))))))))) | exact Or.inr (Or.inr (Or.inr (Or.inr (Or.inr (Or.inr (Or.inr (Or.inr (Or.inr (Or.inr (Or.inr (Or.inl (⟨(by first | assumption | omega | trivial), (by first | omega | assumption | (simp only [id])), (rfl)⟩)))))))))))) | exact Or.inr (Or.inr (Or.inr (Or.inr (Or.inr (Or.inr (Or.inr (Or.inr (Or.inr (Or.inr (Or.inr (Or.inr (Or.inl (⟨(by first | assumption | omega | trivial), (by first | omega | assumption | (simp only [id])), (rfl)⟩))))))))))))) | exact Or.inr (Or.inr (Or.inr (Or.inr (Or.inr (Or.inr (Or.inr (Or.inr (Or.inr (Or.inr (Or.inr (Or.inr (Or.inr (Or.inl (⟨(by first | assumption | omega | trivial), (by first | omega | assumption | (simp only [id])), (rfl)⟩)))))))))))))) | exact Or.inr (Or.inr (Or.inr (Or.inr (Or.inr (Or.inr (Or.inr (Or.inr (Or.inr (Or.inr (Or.inr (Or.inr (Or.inr (Or.inr (Or.inl (⟨(by first | assumption | omega | trivial), (by first | omega | assumption | (simp only [id])), (rfl)⟩))))))))))))))) | exact Or.inr (Or.inr (Or.inr (Or.inr (Or.inr (Or.inr (Or.inr (Or.inr (Or.inr (Or.inr (Or.inr (Or.inr (Or.inr (Or.inr (Or.inr (⟨(by first | assumption | omega | trivial), (by first | omega | assumption | (simp only [id])), (rfl)⟩)))))))))))))))) dX5_count_154
  · refine r_tabIn (tgt := 155) hx hb rq dX5_count_1 (by omega) (by omega) (by rw [c1]; rfl) (by decide) ?_
    refine lv_aload_n hx hb dX5_count_155 rfl (lv_at hl 0 rfl) ?_
    refine r_gR C0 hW (show 0 < 11 ∧ 0 < bs 0 from ⟨by decide, by decide⟩) rfl rfl hiX5 (k := 0) (by decide) kf_X5_12 rfl rfl rfl dX5_count_156 ?_
    refine r_gR C0 hW (show 1 < 11 ∧ 0 < bs 1 from ⟨by decide, by decide⟩) (ceX_m ms_1 G 0 _ _) rfl hiX3 (k := 0) (by decide) kf_X5_185 rfl rfl rfl dX5_count_159 ?_
    refine k_Si (host := "") C0 hW (As := [.ref (ad G 1 1)]) (c_X5_sumOf l G w 20 (show 1 < 11 ∧ 1 < bs 1 from ⟨by decide, by decide⟩) (by omega) (fun A => (ceX_m ms_1 G 1 _ _))) km_X5_235 ks_X5_sumOf kn_X5 kc_X5_sumOf rfl hdS_X5_sumOf ⟨by decide, by decide⟩ rfl hl.1 rfl (Nat.le_of_ble_eq_true rfl) dX5_count_162 (fun z10 w10 H1 locs1 rz10 hp10 hW => ?_)
    obtain ⟨hp10, hq10⟩ := hp10
    subst hq10
    have rz10a := rz10.1
    have rz10b := rz10.2
    exact r_iret C0 hW rz10 (by first | exact Or.inl (⟨(by first | assumption | omega | trivial), (by first | omega | assumption | (simp only [id])), (rfl)⟩) | exact Or.inr (Or.inl (⟨(by first | assumption | omega | trivial), (by first | omega | assumption | (simp only [id])), (rfl)⟩)) | exact Or.inr (Or.inr (Or.inl (⟨(by first | assumption | omega | trivial), (by first | omega | assumption | (simp only [id])), (rfl)⟩))) | exact Or.inr (Or.inr (Or.inr (Or.inl (⟨(by first | assumption | omega | trivial), (by first | omega | assumption | (simp only [id])), (rfl)⟩)))) | exact Or.inr (Or.inr (Or.inr (Or.inr (Or.inl (⟨(by first | assumption | omega | trivial), (by first | omega | assumption | (simp only [id])), (rfl)⟩))))) | exact Or.inr (Or.inr (Or.inr (Or.inr (Or.inr (Or.inl (⟨(by first | assumption | omega | trivial), (by first | omega | assumption | (simp only [id])), (rfl)⟩)))))) | exact Or.inr (Or.inr (Or.inr (Or.inr (Or.inr (Or.inr (Or.inl (⟨(by first | assumption | omega | trivial), (by first | omega | assumption | (simp only [id])), (rfl)⟩))))))) | exact Or.inr (Or.inr (Or.inr (Or.inr (Or.inr (Or.inr (Or.inr (Or.inl (⟨(by first | assumption | omega | trivial), (by first | omega | assumption | (simp only [id])), (rfl)⟩)))))))) | exact Or.inr (Or.inr (Or.inr (Or.inr (Or.inr (Or.inr (Or.inr (Or.inr (Or.inl (⟨(by first | assumption | omega | trivial), (by first | omega | assumption | (simp only [id])), (rfl)⟩))))))))) | exact Or.inr (Or.inr (Or.inr (Or.inr (Or.inr (Or.inr (Or.inr (Or.inr (Or.inr (Or.inl (⟨(by first | assumption | omega | trivial), (by first | omega | assumption | (simp only [id])), (rfl)⟩)))))))))) | exact Or.inr (Or.inr (Or.inr (Or.inr (Or.inr (Or.inr (Or.inr (Or.inr (Or.inr (Or.inr (Or.inl (⟨(by first | assumption | omega | trivial), (by first | omega | assumption | (simp only [id])), (rfl)⟩))))))))))) | exact Or.inr (Or.inr (Or.inr (Or.inr (Or.inr (Or.inr (Or.inr (Or.inr (Or.inr (Or.inr (Or.inr (Or.inl (⟨(by first | assumption | omega | trivial), (by first | omega | assumption | (simp only [id])), (rfl)⟩)))))))))))) | exact Or.inr (Or.inr (Or.inr (Or.inr (Or.inr (Or.inr (Or.inr (Or.inr (Or.inr (Or.inr (Or.inr (Or.inr (Or.inl (⟨(by first | assumption | omega | trivial), (by first | omega | assumption | (simp only [id])), (rfl)⟩))))))))))))) | exact Or.inr (Or.inr (Or.inr (Or.inr (Or.inr (Or.inr (Or.inr (Or.inr (Or.inr (Or.inr (Or.inr (Or.inr (Or.inr (Or.inl (⟨(by first | assumption | omega | trivial), (by first | omega | assumption | (simp only [id])), (rfl)⟩)))))))))))))) | exact Or.inr (Or.inr (Or.inr (Or.inr (Or.inr (Or.inr (Or.inr (Or.inr (Or.inr (Or.inr (Or.inr (Or.inr (Or.inr (Or.inr (Or.inl (⟨(by first | assumption | omega | trivial), (by first | omega | assumption | (simp only [id])), (rfl)⟩))))))))))))))) | exact Or.inr (Or.inr (Or.inr (Or.inr (Or.inr (Or.inr (Or.inr (Or.inr (Or.inr (Or.inr (Or.inr (Or.inr (Or.inr (Or.inr (Or.inr (⟨(by first | assumption | omega | trivial), (by first | omega | assumption | (simp only [id])), (rfl)⟩)))))))))))))))) dX5_count_165
  · refine r_tabIn (tgt := 166) hx hb rq dX5_count_1 (by omega) (by omega) (by rw [c1]; rfl) (by decide) ?_
    refine lv_aload_n hx hb dX5_count_166 rfl (lv_at hl 0 rfl) ?_
    refine r_gR C0 hW (show 0 < 11 ∧ 0 < bs 0 from ⟨by decide, by decide⟩) rfl rfl hiX5 (k := 0) (by decide) kf_X5_12 rfl rfl rfl dX5_count_167 ?_
    refine r_gR C0 hW (show 1 < 11 ∧ 0 < bs 1 from ⟨by decide, by decide⟩) (ceX_m ms_1 G 0 _ _) rfl hiX3 (k := 7) (by decide) kf_X5_135 rfl rfl rfl dX5_count_170 ?_
    refine k_Vi (j := 1) (k0 := 14) C0 hW (c_X1_countOpen l G w ms_1 hwf) km_X5_139 ki_X1_countOpen ke_X1_countOpen kn_X1 kc_X1_countOpen rfl hdV_X1_countOpen ⟨by decide, by decide⟩ (show 1 < 11 ∧ 14 < bs 1 from ⟨by decide, by decide⟩) (ceX_m ms_1 G 14 _ _) rfl rfl hl.1 rfl (Nat.le_of_ble_eq_true rfl) dX5_count_173 (fun z11 w11 H1 locs1 rz11 hp11 hW => ?_)
    obtain ⟨hp11, hq11⟩ := hp11
    subst hq11
    have rz11a := rz11.1
    have rz11b := rz11.2
    exact r_iret C0 hW rz11 (by first | exact Or.inl (⟨(by first | assumption | omega | trivial), (by first | omega | assumption | (simp only [id])), (rfl)⟩) | exact Or.inr (Or.inl (⟨(by first | assumption | omega | trivial), (by first | omega | assumption | (simp only [id])), (rfl)⟩)) | exact Or.inr (Or.inr (Or.inl (⟨(by first | assumption | omega | trivial), (by first | omega | assumption | (simp only [id])), (rfl)⟩))) | exact Or.inr (Or.inr (Or.inr (Or.inl (⟨(by first | assumption | omega | trivial), (by first | omega | assumption | (simp only [id])), (rfl)⟩)))) | exact Or.inr (Or.inr (Or.inr (Or.inr (Or.inl (⟨(by first | assumption | omega | trivial), (by first | omega | assumption | (simp only [id])), (rfl)⟩))))) | exact Or.inr (Or.inr (Or.inr (Or.inr (Or.inr (Or.inl (⟨(by first | assumption | omega | trivial), (by first | omega | assumption | (simp only [id])), (rfl)⟩)))))) | exact Or.inr (Or.inr (Or.inr (Or.inr (Or.inr (Or.inr (Or.inl (⟨(by first | assumption | omega | trivial), (by first | omega | assumption | (simp only [id])), (rfl)⟩))))))) | exact Or.inr (Or.inr (Or.inr (Or.inr (Or.inr (Or.inr (Or.inr (Or.inl (⟨(by first | assumption | omega | trivial), (by first | omega | assumption | (simp only [id])), (rfl)⟩)))))))) | exact Or.inr (Or.inr (Or.inr (Or.inr (Or.inr (Or.inr (Or.inr (Or.inr (Or.inl (⟨(by first | assumption | omega | trivial), (by first | omega | assumption | (simp only [id])), (rfl)⟩))))))))) | exact Or.inr (Or.inr (Or.inr (Or.inr (Or.inr (Or.inr (Or.inr (Or.inr (Or.inr (Or.inl (⟨(by first | assumption | omega | trivial), (by first | omega | assumption | (simp only [id])), (rfl)⟩)))))))))) | exact Or.inr (Or.inr (Or.inr (Or.inr (Or.inr (Or.inr (Or.inr (Or.inr (Or.inr (Or.inr (Or.inl (⟨(by first | assumption | omega | trivial), (by first | omega | assumption | (simp only [id])), (rfl)⟩))))))))))) | exact Or.inr (Or.inr (Or.inr (Or.inr (Or.inr (Or.inr (Or.inr (Or.inr (Or.inr (Or.inr (Or.inr (Or.inl (⟨(by first | assumption | omega | trivial), (by first | omega | assumption | (simp only [id])), (rfl)⟩)))))))))))) | exact Or.inr (Or.inr (Or.inr (Or.inr (Or.inr (Or.inr (Or.inr (Or.inr (Or.inr (Or.inr (Or.inr (Or.inr (Or.inl (⟨(by first | assumption | omega | trivial), (by first | omega | assumption | (simp only [id])), (rfl)⟩))))))))))))) | exact Or.inr (Or.inr (Or.inr (Or.inr (Or.inr (Or.inr (Or.inr (Or.inr (Or.inr (Or.inr (Or.inr (Or.inr (Or.inr (Or.inl (⟨(by first | assumption | omega | trivial), (by first | omega | assumption | (simp only [id])), (rfl)⟩)))))))))))))) | exact Or.inr (Or.inr (Or.inr (Or.inr (Or.inr (Or.inr (Or.inr (Or.inr (Or.inr (Or.inr (Or.inr (Or.inr (Or.inr (Or.inr (Or.inl (⟨(by first | assumption | omega | trivial), (by first | omega | assumption | (simp only [id])), (rfl)⟩))))))))))))))) | exact Or.inr (Or.inr (Or.inr (Or.inr (Or.inr (Or.inr (Or.inr (Or.inr (Or.inr (Or.inr (Or.inr (Or.inr (Or.inr (Or.inr (Or.inr (⟨(by first | assumption | omega | trivial), (by first | omega | assumption | (simp only [id])), (rfl)⟩)))))))))))))))) dX5_count_176
  · refine r_tabIn (tgt := 177) hx hb rq dX5_count_1 (by omega) (by omega) (by rw [c1]; rfl) (by decide) ?_
    refine lv_aload_n hx hb dX5_count_177 rfl (lv_at hl 0 rfl) ?_
    refine r_gR C0 hW (show 0 < 11 ∧ 0 < bs 0 from ⟨by decide, by decide⟩) rfl rfl hiX5 (k := 0) (by decide) kf_X5_12 rfl rfl rfl dX5_count_178 ?_
    refine r_gR C0 hW (show 1 < 11 ∧ 0 < bs 1 from ⟨by decide, by decide⟩) (ceX_m ms_1 G 0 _ _) rfl hiX3 (k := 7) (by decide) kf_X5_135 rfl rfl rfl dX5_count_181 ?_
    refine r_gI C0 hW (show 1 < 11 ∧ 14 < bs 1 from ⟨by decide, by decide⟩) (ceX_m ms_1 G 14 _ _) rfl hiX1 (k := 5) (by decide) kf_X5_239 rfl rfl rfl dX5_count_184 (fun z12 (hz12 : z12 = gN (w 1) 14 5) rz12 => ?_)
    have rz12a := rz12.1
    have rz12b := rz12.2
    exact r_iret C0 hW rz12 (by first | exact Or.inl (⟨(by first | assumption | omega | trivial), (by first | omega | assumption | (simp only [hz12])), (rfl)⟩) | exact Or.inr (Or.inl (⟨(by first | assumption | omega | trivial), (by first | omega | assumption | (simp only [hz12])), (rfl)⟩)) | exact Or.inr (Or.inr (Or.inl (⟨(by first | assumption | omega | trivial), (by first | omega | assumption | (simp only [hz12])), (rfl)⟩))) | exact Or.inr (Or.inr (Or.inr (Or.inl (⟨(by first | assumption | omega | trivial), (by first | omega | assumption | (simp only [hz12])), (rfl)⟩)))) | exact Or.inr (Or.inr (Or.inr (Or.inr (Or.inl (⟨(by first | assumption | omega | trivial), (by first | omega | assumption | (simp only [hz12])), (rfl)⟩))))) | exact Or.inr (Or.inr (Or.inr (Or.inr (Or.inr (Or.inl (⟨(by first | assumption | omega | trivial), (by first | omega | assumption | (simp only [hz12])), (rfl)⟩)))))) | exact Or.inr (Or.inr (Or.inr (Or.inr (Or.inr (Or.inr (Or.inl (⟨(by first | assumption | omega | trivial), (by first | omega | assumption | (simp only [hz12])), (rfl)⟩))))))) | exact Or.inr (Or.inr (Or.inr (Or.inr (Or.inr (Or.inr (Or.inr (Or.inl (⟨(by first | assumption | omega | trivial), (by first | omega | assumption | (simp only [hz12])), (rfl)⟩)))))))) | exact Or.inr (Or.inr (Or.inr (Or.inr (Or.inr (Or.inr (Or.inr (Or.inr (Or.inl (⟨(by first | assumption | omega | trivial), (by first | omega | assumption | (simp only [hz12])), (rfl)⟩))))))))) | exact Or.inr (Or.inr (Or.inr (Or.inr (Or.inr (Or.inr (Or.inr (Or.inr (Or.inr (Or.inl (⟨(by first | assumption | omega | trivial), (by first | omega | assumption | (simp only [hz12])), (rfl)⟩)))))))))) | exact Or.inr (Or.inr (Or.inr (Or.inr (Or.inr (Or.inr (Or.inr (Or.inr (Or.inr (Or.inr (Or.inl (⟨(by first | assumption | omega | trivial), (by first | omega | assumption | (simp only [hz12])), (rfl)⟩))))))))))) | exact Or.inr (Or.inr (Or.inr (Or.inr (Or.inr (Or.inr (Or.inr (Or.inr (Or.inr (Or.inr (Or.inr (Or.inl (⟨(by first | assumption | omega | trivial), (by first | omega | assumption | (simp only [hz12])), (rfl)⟩)))))))))))) | exact Or.inr (Or.inr (Or.inr (Or.inr (Or.inr (Or.inr (Or.inr (Or.inr (Or.inr (Or.inr (Or.inr (Or.inr (Or.inl (⟨(by first | assumption | omega | trivial), (by first | omega | assumption | (simp only [hz12])), (rfl)⟩))))))))))))) | exact Or.inr (Or.inr (Or.inr (Or.inr (Or.inr (Or.inr (Or.inr (Or.inr (Or.inr (Or.inr (Or.inr (Or.inr (Or.inr (Or.inl (⟨(by first | assumption | omega | trivial), (by first | omega | assumption | (simp only [hz12])), (rfl)⟩)))))))))))))) | exact Or.inr (Or.inr (Or.inr (Or.inr (Or.inr (Or.inr (Or.inr (Or.inr (Or.inr (Or.inr (Or.inr (Or.inr (Or.inr (Or.inr (Or.inl (⟨(by first | assumption | omega | trivial), (by first | omega | assumption | (simp only [hz12])), (rfl)⟩))))))))))))))) | exact Or.inr (Or.inr (Or.inr (Or.inr (Or.inr (Or.inr (Or.inr (Or.inr (Or.inr (Or.inr (Or.inr (Or.inr (Or.inr (Or.inr (Or.inr (⟨(by first | assumption | omega | trivial), (by first | omega | assumption | (simp only [hz12])), (rfl)⟩)))))))))))))))) dX5_count_187
  · refine r_tabIn (tgt := 188) hx hb rq dX5_count_1 (by omega) (by omega) (by rw [c1]; rfl) (by decide) ?_
    refine lv_aload_n hx hb dX5_count_188 rfl (lv_at hl 0 rfl) ?_
    refine r_gR C0 hW (show 0 < 11 ∧ 0 < bs 0 from ⟨by decide, by decide⟩) rfl rfl hiX5 (k := 0) (by decide) kf_X5_12 rfl rfl rfl dX5_count_189 ?_
    refine r_gI C0 hW (show 1 < 11 ∧ 0 < bs 1 from ⟨by decide, by decide⟩) (ceX_m ms_1 G 0 _ _) rfl hiX3 (k := 8) (by decide) kf_X5_69 rfl rfl rfl dX5_count_192 (fun z13 (hz13 : z13 = gN (w 1) 0 8) rz13 => ?_)
    have rz13a := rz13.1
    have rz13b := rz13.2
    exact r_iret C0 hW rz13 (by first | exact Or.inl (⟨(by first | assumption | omega | trivial), (by first | omega | assumption | (simp only [hz13])), (rfl)⟩) | exact Or.inr (Or.inl (⟨(by first | assumption | omega | trivial), (by first | omega | assumption | (simp only [hz13])), (rfl)⟩)) | exact Or.inr (Or.inr (Or.inl (⟨(by first | assumption | omega | trivial), (by first | omega | assumption | (simp only [hz13])), (rfl)⟩))) | exact Or.inr (Or.inr (Or.inr (Or.inl (⟨(by first | assumption | omega | trivial), (by first | omega | assumption | (simp only [hz13])), (rfl)⟩)))) | exact Or.inr (Or.inr (Or.inr (Or.inr (Or.inl (⟨(by first | assumption | omega | trivial), (by first | omega | assumption | (simp only [hz13])), (rfl)⟩))))) | exact Or.inr (Or.inr (Or.inr (Or.inr (Or.inr (Or.inl (⟨(by first | assumption | omega | trivial), (by first | omega | assumption | (simp only [hz13])), (rfl)⟩)))))) | exact Or.inr (Or.inr (Or.inr (Or.inr (Or.inr (Or.inr (Or.inl (⟨(by first | assumption | omega | trivial), (by first | omega | assumption | (simp only [hz13])), (rfl)⟩))))))) | exact Or.inr (Or.inr (Or.inr (Or.inr (Or.inr (Or.inr (Or.inr (Or.inl (⟨(by first | assumption | omega | trivial), (by first | omega | assumption | (simp only [hz13])), (rfl)⟩)))))))) | exact Or.inr (Or.inr (Or.inr (Or.inr (Or.inr (Or.inr (Or.inr (Or.inr (Or.inl (⟨(by first | assumption | omega | trivial), (by first | omega | assumption | (simp only [hz13])), (rfl)⟩))))))))) | exact Or.inr (Or.inr (Or.inr (Or.inr (Or.inr (Or.inr (Or.inr (Or.inr (Or.inr (Or.inl (⟨(by first | assumption | omega | trivial), (by first | omega | assumption | (simp only [hz13])), (rfl)⟩)))))))))) | exact Or.inr (Or.inr (Or.inr (Or.inr (Or.inr (Or.inr (Or.inr (Or.inr (Or.inr (Or.inr (Or.inl (⟨(by first | assumption | omega | trivial), (by first | omega | assumption | (simp only [hz13])), (rfl)⟩))))))))))) | exact Or.inr (Or.inr (Or.inr (Or.inr (Or.inr (Or.inr (Or.inr (Or.inr (Or.inr (Or.inr (Or.inr (Or.inl (⟨(by first | assumption | omega | trivial), (by first | omega | assumption | (simp only [hz13])), (rfl)⟩)))))))))))) | exact Or.inr (Or.inr (Or.inr (Or.inr (Or.inr (Or.inr (Or.inr (Or.inr (Or.inr (Or.inr (Or.inr (Or.inr (Or.inl (⟨(by first | assumption | omega | trivial), (by first | omega | assumption | (simp only [hz13])), (rfl)⟩))))))))))))) | exact Or.inr (Or.inr (Or.inr (Or.inr (Or.inr (Or.inr (Or.inr (Or.inr (Or.inr (Or.inr (Or.inr (Or.inr (Or.inr (Or.inl (⟨(by first | assumption | omega | trivial), (by first | omega | assumption | (simp only [hz13])), (rfl)⟩)))))))))))))) | exact Or.inr (Or.inr (Or.inr (Or.inr (Or.inr (Or.inr (Or.inr (Or.inr (Or.inr (Or.inr (Or.inr (Or.inr (Or.inr (Or.inr (Or.inl (⟨(by first | assumption | omega | trivial), (by first | omega | assumption | (simp only [hz13])), (rfl)⟩))))))))))))))) | exact Or.inr (Or.inr (Or.inr (Or.inr (Or.inr (Or.inr (Or.inr (Or.inr (Or.inr (Or.inr (Or.inr (Or.inr (Or.inr (Or.inr (Or.inr (⟨(by first | assumption | omega | trivial), (by first | omega | assumption | (simp only [hz13])), (rfl)⟩)))))))))))))))) dX5_count_195
  · refine r_tabIn (tgt := 196) hx hb rq dX5_count_1 (by omega) (by omega) (by rw [c1]; rfl) (by decide) ?_
    refine lv_aload_n hx hb dX5_count_196 rfl (lv_at hl 0 rfl) ?_
    refine r_gR C0 hW (show 0 < 11 ∧ 0 < bs 0 from ⟨by decide, by decide⟩) rfl rfl hiX5 (k := 0) (by decide) kf_X5_12 rfl rfl rfl dX5_count_197 ?_
    refine r_gI C0 hW (show 1 < 11 ∧ 0 < bs 1 from ⟨by decide, by decide⟩) (ceX_m ms_1 G 0 _ _) rfl hiX3 (k := 9) (by decide) kf_X5_73 rfl rfl rfl dX5_count_200 (fun z14 (hz14 : z14 = gN (w 1) 0 9) rz14 => ?_)
    have rz14a := rz14.1
    have rz14b := rz14.2
    exact r_iret C0 hW rz14 (by first | exact Or.inl (⟨(by first | assumption | omega | trivial), (by first | omega | assumption | (simp only [hz14])), (rfl)⟩) | exact Or.inr (Or.inl (⟨(by first | assumption | omega | trivial), (by first | omega | assumption | (simp only [hz14])), (rfl)⟩)) | exact Or.inr (Or.inr (Or.inl (⟨(by first | assumption | omega | trivial), (by first | omega | assumption | (simp only [hz14])), (rfl)⟩))) | exact Or.inr (Or.inr (Or.inr (Or.inl (⟨(by first | assumption | omega | trivial), (by first | omega | assumption | (simp only [hz14])), (rfl)⟩)))) | exact Or.inr (Or.inr (Or.inr (Or.inr (Or.inl (⟨(by first | assumption | omega | trivial), (by first | omega | assumption | (simp only [hz14])), (rfl)⟩))))) | exact Or.inr (Or.inr (Or.inr (Or.inr (Or.inr (Or.inl (⟨(by first | assumption | omega | trivial), (by first | omega | assumption | (simp only [hz14])), (rfl)⟩)))))) | exact Or.inr (Or.inr (Or.inr (Or.inr (Or.inr (Or.inr (Or.inl (⟨(by first | assumption | omega | trivial), (by first | omega | assumption | (simp only [hz14])), (rfl)⟩))))))) | exact Or.inr (Or.inr (Or.inr (Or.inr (Or.inr (Or.inr (Or.inr (Or.inl (⟨(by first | assumption | omega | trivial), (by first | omega | assumption | (simp only [hz14])), (rfl)⟩)))))))) | exact Or.inr (Or.inr (Or.inr (Or.inr (Or.inr (Or.inr (Or.inr (Or.inr (Or.inl (⟨(by first | assumption | omega | trivial), (by first | omega | assumption | (simp only [hz14])), (rfl)⟩))))))))) | exact Or.inr (Or.inr (Or.inr (Or.inr (Or.inr (Or.inr (Or.inr (Or.inr (Or.inr (Or.inl (⟨(by first | assumption | omega | trivial), (by first | omega | assumption | (simp only [hz14])), (rfl)⟩)))))))))) | exact Or.inr (Or.inr (Or.inr (Or.inr (Or.inr (Or.inr (Or.inr (Or.inr (Or.inr (Or.inr (Or.inl (⟨(by first | assumption | omega | trivial), (by first | omega | assumption | (simp only [hz14])), (rfl)⟩))))))))))) | exact Or.inr (Or.inr (Or.inr (Or.inr (Or.inr (Or.inr (Or.inr (Or.inr (Or.inr (Or.inr (Or.inr (Or.inl (⟨(by first | assumption | omega | trivial), (by first | omega | assumption | (simp only [hz14])), (rfl)⟩)))))))))))) | exact Or.inr (Or.inr (Or.inr (Or.inr (Or.inr (Or.inr (Or.inr (Or.inr (Or.inr (Or.inr (Or.inr (Or.inr (Or.inl (⟨(by first | assumption | omega | trivial), (by first | omega | assumption | (simp only [hz14])), (rfl)⟩))))))))))))) | exact Or.inr (Or.inr (Or.inr (Or.inr (Or.inr (Or.inr (Or.inr (Or.inr (Or.inr (Or.inr (Or.inr (Or.inr (Or.inr (Or.inl (⟨(by first | assumption | omega | trivial), (by first | omega | assumption | (simp only [hz14])), (rfl)⟩)))))))))))))) | exact Or.inr (Or.inr (Or.inr (Or.inr (Or.inr (Or.inr (Or.inr (Or.inr (Or.inr (Or.inr (Or.inr (Or.inr (Or.inr (Or.inr (Or.inl (⟨(by first | assumption | omega | trivial), (by first | omega | assumption | (simp only [hz14])), (rfl)⟩))))))))))))))) | exact Or.inr (Or.inr (Or.inr (Or.inr (Or.inr (Or.inr (Or.inr (Or.inr (Or.inr (Or.inr (Or.inr (Or.inr (Or.inr (Or.inr (Or.inr (⟨(by first | assumption | omega | trivial), (by first | omega | assumption | (simp only [hz14])), (rfl)⟩)))))))))))))))) dX5_count_203
  · refine r_tabIn (tgt := 204) hx hb rq dX5_count_1 (by omega) (by omega) (by rw [c1]; rfl) (by decide) ?_
    refine lv_aload_n hx hb dX5_count_204 rfl (lv_at hl 0 rfl) ?_
    refine r_gR C0 hW (show 0 < 11 ∧ 0 < bs 0 from ⟨by decide, by decide⟩) rfl rfl hiX5 (k := 3) (by decide) kf_X5_25 rfl rfl rfl dX5_count_205 ?_
    refine r_gI C0 hW (show 4 < 11 ∧ 0 < bs 4 from ⟨by decide, by decide⟩) rfl rfl hiX2 (k := 4) (by decide) kf_X5_157 rfl rfl rfl dX5_count_208 (fun z15 (hz15 : z15 = gN (w 4) 0 4) rz15 => ?_)
    have rz15a := rz15.1
    have rz15b := rz15.2
    exact r_iret C0 hW rz15 (by first | exact Or.inl (⟨(by first | assumption | omega | trivial), (by first | omega | assumption | (simp only [hz15])), (rfl)⟩) | exact Or.inr (Or.inl (⟨(by first | assumption | omega | trivial), (by first | omega | assumption | (simp only [hz15])), (rfl)⟩)) | exact Or.inr (Or.inr (Or.inl (⟨(by first | assumption | omega | trivial), (by first | omega | assumption | (simp only [hz15])), (rfl)⟩))) | exact Or.inr (Or.inr (Or.inr (Or.inl (⟨(by first | assumption | omega | trivial), (by first | omega | assumption | (simp only [hz15])), (rfl)⟩)))) | exact Or.inr (Or.inr (Or.inr (Or.inr (Or.inl (⟨(by first | assumption | omega | trivial), (by first | omega | assumption | (simp only [hz15])), (rfl)⟩))))) | exact Or.inr (Or.inr (Or.inr (Or.inr (Or.inr (Or.inl (⟨(by first | assumption | omega | trivial), (by first | omega | assumption | (simp only [hz15])), (rfl)⟩)))))) | exact Or.inr (Or.inr (Or.inr (Or.inr (Or.inr (Or.inr (Or.inl (⟨(by first | assumption | omega | trivial), (by first | omega | assumption | (simp only [hz15])), (rfl)⟩))))))) | exact Or.inr (Or.inr (Or.inr (Or.inr (Or.inr (Or.inr (Or.inr (Or.inl (⟨(by first | assumption | omega | trivial), (by first | omega | assumption | (simp only [hz15])), (rfl)⟩)))))))) | exact Or.inr (Or.inr (Or.inr (Or.inr (Or.inr (Or.inr (Or.inr (Or.inr (Or.inl (⟨(by first | assumption | omega | trivial), (by first | omega | assumption | (simp only [hz15])), (rfl)⟩))))))))) | exact Or.inr (Or.inr (Or.inr (Or.inr (Or.inr (Or.inr (Or.inr (Or.inr (Or.inr (Or.inl (⟨(by first | assumption | omega | trivial), (by first | omega | assumption | (simp only [hz15])), (rfl)⟩)))))))))) | exact Or.inr (Or.inr (Or.inr (Or.inr (Or.inr (Or.inr (Or.inr (Or.inr (Or.inr (Or.inr (Or.inl (⟨(by first | assumption | omega | trivial), (by first | omega | assumption | (simp only [hz15])), (rfl)⟩))))))))))) | exact Or.inr (Or.inr (Or.inr (Or.inr (Or.inr (Or.inr (Or.inr (Or.inr (Or.inr (Or.inr (Or.inr (Or.inl (⟨(by first | assumption | omega | trivial), (by first | omega | assumption | (simp only [hz15])), (rfl)⟩)))))))))))) | exact Or.inr (Or.inr (Or.inr (Or.inr (Or.inr (Or.inr (Or.inr (Or.inr (Or.inr (Or.inr (Or.inr (Or.inr (Or.inl (⟨(by first | assumption | omega | trivial), (by first | omega | assumption | (simp only [hz15])), (rfl)⟩))))))))))))) | exact Or.inr (Or.inr (Or.inr (Or.inr (Or.inr (Or.inr (Or.inr (Or.inr (Or.inr (Or.inr (Or.inr (Or.inr (Or.inr (Or.inl (⟨(by first | assumption | omega | trivial), (by first | omega | assumption | (simp only [hz15])), (rfl)⟩)))))))))))))) | exact Or.inr (Or.inr (Or.inr (Or.inr (Or.inr (Or.inr (Or.inr (Or.inr (Or.inr (Or.inr (Or.inr (Or.inr (Or.inr (Or.inr (Or.inl (⟨(by first | assumption | omega | trivial), (by first | omega | assumption | (simp only [hz15])), (rfl)⟩))))))))))))))) | exact Or.inr (Or.inr (Or.inr (Or.inr (Or.inr (Or.inr (Or.inr (Or.inr (Or.inr (Or.inr (Or.inr (Or.inr (Or.inr (Or.inr (Or.inr (⟨(by first | assumption | omega | trivial), (by first | omega | assumption | (simp only [hz15])), (rfl)⟩)))))))))))))))) dX5_count_211
  · refine r_tabIn (tgt := 212) hx hb rq dX5_count_1 (by omega) (by omega) (by rw [c1]; rfl) (by decide) ?_
    refine lv_aload_n hx hb dX5_count_212 rfl (lv_at hl 0 rfl) ?_
    refine r_gR C0 hW (show 0 < 11 ∧ 0 < bs 0 from ⟨by decide, by decide⟩) rfl rfl hiX5 (k := 4) (by decide) kf_X5_32 rfl rfl rfl dX5_count_213 ?_
    refine r_gI C0 hW (show 9 < 11 ∧ 0 < bs 9 from ⟨by decide, by decide⟩) rfl rfl hiX0 (k := 1) (by decide) kf_X5_154 rfl rfl rfl dX5_count_216 (fun z16 (hz16 : z16 = gN (w 9) 0 1) rz16 => ?_)
    have rz16a := rz16.1
    have rz16b := rz16.2
    exact r_iret C0 hW rz16 (by first | exact Or.inl (⟨(by first | assumption | omega | trivial), (by first | omega | assumption | (simp only [hz16])), (rfl)⟩) | exact Or.inr (Or.inl (⟨(by first | assumption | omega | trivial), (by first | omega | assumption | (simp only [hz16])), (rfl)⟩)) | exact Or.inr (Or.inr (Or.inl (⟨(by first | assumption | omega | trivial), (by first | omega | assumption | (simp only [hz16])), (rfl)⟩))) | exact Or.inr (Or.inr (Or.inr (Or.inl (⟨(by first | assumption | omega | trivial), (by first | omega | assumption | (simp only [hz16])), (rfl)⟩)))) | exact Or.inr (Or.inr (Or.inr (Or.inr (Or.inl (⟨(by first | assumption | omega | trivial), (by first | omega | assumption | (simp only [hz16])), (rfl)⟩))))) | exact Or.inr (Or.inr (Or.inr (Or.inr (Or.inr (Or.inl (⟨(by first | assumption | omega | trivial), (by first | omega | assumption | (simp only [hz16])), (rfl)⟩)))))) | exact Or.inr (Or.inr (Or.inr (Or.inr (Or.inr (Or.inr (Or.inl (⟨(by first | assumption | omega | trivial), (by first | omega | assumption | (simp only [hz16])), (rfl)⟩))))))) | exact Or.inr (Or.inr (Or.inr (Or.inr (Or.inr (Or.inr (Or.inr (Or.inl (⟨(by first | assumption | omega | trivial), (by first | omega | assumption | (simp only [hz16])), (rfl)⟩)))))))) | exact Or.inr (Or.inr (Or.inr (Or.inr (Or.inr (Or.inr (Or.inr (Or.inr (Or.inl (⟨(by first | assumption | omega | trivial), (by first | omega | assumption | (simp only [hz16])), (rfl)⟩))))))))) | exact Or.inr (Or.inr (Or.inr (Or.inr (Or.inr (Or.inr (Or.inr (Or.inr (Or.inr (Or.inl (⟨(by first | assumption | omega | trivial), (by first | omega | assumption | (simp only [hz16])), (rfl)⟩)))))))))) | exact Or.inr (Or.inr (Or.inr (Or.inr (Or.inr (Or.inr (Or.inr (Or.inr (Or.inr (Or.inr (Or.inl (⟨(by first | assumption | omega | trivial), (by first | omega | assumption | (simp only [hz16])), (rfl)⟩))))))))))) | exact Or.inr (Or.inr (Or.inr (Or.inr (Or.inr (Or.inr (Or.inr (Or.inr (Or.inr (Or.inr (Or.inr (Or.inl (⟨(by first | assumption | omega | trivial), (by first | omega | assumption | (simp only [hz16])), (rfl)⟩)))))))))))) | exact Or.inr (Or.inr (Or.inr (Or.inr (Or.inr (Or.inr (Or.inr (Or.inr (Or.inr (Or.inr (Or.inr (Or.inr (Or.inl (⟨(by first | assumption | omega | trivial), (by first | omega | assumption | (simp only [hz16])), (rfl)⟩))))))))))))) | exact Or.inr (Or.inr (Or.inr (Or.inr (Or.inr (Or.inr (Or.inr (Or.inr (Or.inr (Or.inr (Or.inr (Or.inr (Or.inr (Or.inl (⟨(by first | assumption | omega | trivial), (by first | omega | assumption | (simp only [hz16])), (rfl)⟩)))))))))))))) | exact Or.inr (Or.inr (Or.inr (Or.inr (Or.inr (Or.inr (Or.inr (Or.inr (Or.inr (Or.inr (Or.inr (Or.inr (Or.inr (Or.inr (Or.inl (⟨(by first | assumption | omega | trivial), (by first | omega | assumption | (simp only [hz16])), (rfl)⟩))))))))))))))) | exact Or.inr (Or.inr (Or.inr (Or.inr (Or.inr (Or.inr (Or.inr (Or.inr (Or.inr (Or.inr (Or.inr (Or.inr (Or.inr (Or.inr (Or.inr (⟨(by first | assumption | omega | trivial), (by first | omega | assumption | (simp only [hz16])), (rfl)⟩)))))))))))))))) dX5_count_219
