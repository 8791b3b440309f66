/-- X5_lend: its end -/
def po_X5_lend (w : gW) (b0 : Nat) (b1 : Nat) (b2 : Nat) (b3 : Nat) (pl : Int) (co : Int) : Int → gW → Prop := fun z w1 => ((¬ ((0 ≤ pl ∧ pl ≤ 19) ∧ (0 ≤ co ∧ co ≤ 9))) ∧ (z = -1) ∧ (w1 = w)) ∨ ((0 ≤ pl ∧ pl ≤ 19) ∧ (0 ≤ co ∧ co ≤ 9) ∧ (gA (w 1) 3 pl = co) ∧ (z = -5) ∧ (w1 = w)) ∨ ((0 ≤ pl ∧ pl ≤ 19) ∧ (0 ≤ co ∧ co ≤ 9) ∧ (¬ gA (w 1) 3 pl = co) ∧ (z = gA (w 1) 3 pl) ∧ (w1 = up (recW w b0 b1 b2 b3) 1 (sA (w 1) 3 pl (iI co))))
theorem hdV_X5_lend : yX5_lend.cls = RX5 ∧ yX5_lend.cls ≠ "java/lang/invoke/MethodHandle" ∧ yX5_lend.cls ≠ "java/lang/invoke/VarHandle" ∧ (parseMethodDescriptor yX5_lend.desc).map (fun d => d.parameters.length) = some 2 := by decide +kernel
set_option maxHeartbeats 4000000 in
set_option maxRecDepth 100000 in
theorem c_X5_lend (l : Launch) (G : gG) (w : gW) {b0 : Nat} {b1 : Nat} {b2 : Nat} {b3 : Nat} (hO : okW w b0 b1 b2 b3) (pl : Int) (co : Int) (rpl : inR pl) (rco : inR co) : mI l G yX5_lend (wU yX5_lend cX5_lend 4 (some .int)) (rmL 5 103) [.ref (ad G 0 0), .int (iI pl), .int (iI co)] w (po_X5_lend w b0 b1 b2 b3 pl co) := by
  refine mI_of (by decide +kernel) (Nat.le_of_ble_eq_true rfl) (fun p e s m args below meth c ls C0 hW hl => ?_)
  have hl : lv_has ls 4 [(0, .ref (ad G 0 0)), (1, .int (iI pl)), (2, .int (iI co))] := hl
  have hx := C0.hx
  have hb := C0.hb
  obtain ⟨hp4, hh, hwfs, hs4, hl9⟩ := id hO
  obtain ⟨q0, q1, q2, q3, n1, n2, n3, n4, n5, n6⟩ := id hp4
  have hwf := hwfs 1 ms_1
  obtain ⟨⟨hs1, hs2⟩, ⟨hd1, hd2, hd3⟩, hwet, -, -, -, ⟨hr1, hr2⟩, ⟨hc1, hc2⟩, hds⟩ := id hwf
  have hu1 : ∀ (w : gW) (M : gM), up w 4 M 1 = w 1 := fun w M => up_n w M (by decide)
  have hu31 : ∀ (w : gW) (M : gM), up w b3 M 1 = w 1 := fun w M => up_n w M (by omega)
  have hu91 : ∀ (w : gW) (M : gM), up w 9 M 1 = w 1 := fun w M => up_n w M (by decide)
  have hu14 : ∀ (w : gW) (M : gM), up w 1 M 4 = w 4 := fun w M => up_n w M (by decide)
  have hu94 : ∀ (w : gW) (M : gM), up w 9 M 4 = w 4 := fun w M => up_n w M (by decide)
  have hu19 : ∀ (w : gW) (M : gM), up w 1 M 9 = w 9 := fun w M => up_n w M (by decide)
  have hu49 : ∀ (w : gW) (M : gM), up w 4 M 9 = w 9 := fun w M => up_n w M (by decide)
  have hu39 : ∀ (w : gW) (M : gM), up w b3 M 9 = w 9 := fun w M => up_n w M (by omega)
  have hu42 : ∀ (w : gW) (M : gM), up w 4 M 2 = w 2 := fun w M => up_n w M (by decide)
  have hu32 : ∀ (w : gW) (M : gM), up w b3 M 2 = w 2 := fun w M => up_n w M (by omega)
  have hu20 : ∀ (w : gW) (M : gM), up w 2 M 0 = w 0 := fun w M => up_n w M (by decide)
  have hu21 : ∀ (w : gW) (M : gM), up w 2 M 1 = w 1 := fun w M => up_n w M (by decide)
  have hu31b : ∀ (w : gW) (M : gM), up w 3 M 1 = w 1 := fun w M => up_n w M (by decide)
  have hu01 : ∀ (w : gW) (M : gM), up w 0 M 1 = w 1 := fun w M => up_n w M (by decide)
  have hu24 : ∀ (w : gW) (M : gM), up w 2 M 4 = w 4 := fun w M => up_n w M (by decide)
  have hu34 : ∀ (w : gW) (M : gM), up w 3 M 4 = w 4 := fun w M => up_n w M (by decide)
  refine lv_iload_n hx hb dX5_lend_0 rfl (lv_at hl 1 rfl) ?_
  refine k_Si (host := "") C0 hW (As := [.int (iI pl)]) (c_X5_isPlot l G w pl rpl) km_X5_40 ks_X5_isPlot kn_X5 kc_X5_isPlot rfl hdS_X5_isPlot ⟨by decide, by decide⟩ rfl hl.1 rfl (Nat.le_of_ble_eq_true rfl) dX5_lend_1 (fun z1 w1 H1 locs1 rz1 hp1 hW => ?_)
  obtain ⟨hp1, hq1⟩ := hp1
  subst hq1
  have rz1a := rz1.1
  have rz1b := rz1.2
  rcases hp1 with ⟨e1, hp1⟩ | ⟨e1, hp1⟩
  · subst e1
    refine r_if_eq (tgt := 14) hx hb ⟨by omega, by omega⟩ dX5_lend_4 (by decide) (fun q => absurd q (by decide)) (fun _ => ?_)
    refine lv_iload_n hx hb dX5_lend_7 rfl (lv_at hl 2 rfl) ?_
    refine k_Si (host := "") C0 hW (As := [.int (iI co)]) (c_X5_isCommoner l G w co rco) km_X5_44 ks_X5_isCommoner kn_X5 kc_X5_isCommoner rfl hdS_X5_isCommoner ⟨by decide, by decide⟩ rfl hl.1 rfl (Nat.le_of_ble_eq_true rfl) dX5_lend_8 (fun z2 w2 H1 locs1 rz2 hp2 hW => ?_)
    obtain ⟨hp2, hq2⟩ := hp2
    subst hq2
    have rz2a := rz2.1
    have rz2b := rz2.2
    rcases hp2 with ⟨e2, hp2⟩ | ⟨e2, hp2⟩
    · subst e2
      refine r_if_ne (tgt := 16) hx hb ⟨by omega, by omega⟩ dX5_lend_11 (by decide) (fun _ => ?_) (fun q => absurd q (by decide))
      refine lv_aload_n hx hb dX5_lend_16 rfl (lv_at hl 0 rfl) ?_
      refine r_gR C0 hW (show 0 < 11 ∧ 0 < bs 0 from ⟨by decide, by decide⟩) rfl rfl hiX5 (k := 0) (by decide) kf_X5_12 rfl rfl rfl dX5_lend_17 ?_
      refine r_gR C0 hW (show 1 < 11 ∧ 0 < bs 1 from ⟨by decide, by decide⟩) (ceX_m ms_1 G 0 _ _) rfl hiX3 (k := 2) (by decide) kf_X5_47 rfl rfl rfl dX5_lend_20 ?_
      refine lv_iload_n hx hb dX5_lend_23 rfl (lv_at hl 1 rfl) ?_
      refine r_ild C0 hW (show 1 < 11 ∧ 3 < bs 1 from ⟨by decide, by decide⟩) (ceX_m ms_1 G 3 _ _) (n := 20) (by omega) (by omega) (by omega) dX5_lend_24 (fun z3 (hz3 : z3 = gA (w 1) 3 pl) rz3 => ?_)
      have rz3a := rz3.1
      have rz3b := rz3.2
      refine lv_istore_n (lv' := [(3, .int (iI z3)), (0, .ref (ad G 0 0)), (1, .int (iI pl)), (2, .int (iI co))]) hx hb dX5_lend_25 rfl hl (by decide) rfl (fun ls hl => ?_)
      refine lv_iload_n hx hb dX5_lend_26 rfl (lv_at hl 0 rfl) ?_
      refine lv_iload_n hx hb dX5_lend_27 rfl (lv_at hl 3 rfl) ?_
      refine r_icmp_ne (tgt := 34) hx hb rz3 rco dX5_lend_28 (by decide) (fun c4 => ?_) (fun c4 => ?_)
      · refine lv_aload_n hx hb dX5_lend_34 rfl (lv_at hl 1 rfl) ?_
        refine r_gR C0 hW (show 0 < 11 ∧ 0 < bs 0 from ⟨by decide, by decide⟩) rfl rfl hiX5 (k := 3) (by decide) kf_X5_25 rfl rfl rfl dX5_lend_35 ?_
        refine lv_aload_n hx hb dX5_lend_38 rfl (lv_at hl 1 rfl) ?_
        refine r_gR C0 hW (show 0 < 11 ∧ 0 < bs 0 from ⟨by decide, by decide⟩) rfl rfl hiX5 (k := 0) (by decide) kf_X5_12 rfl rfl rfl dX5_lend_39 ?_
        refine k_Vv (j := 4) (k0 := 0) C0 hW (c_X2_record l G w (hp4) hh hwf (by first | omega | (simp (decide := true) only [id, up_s, gA_sF, gN_sF, gA_sA, gN_sA, gA_sS, gN_sS, if_true, if_false, true_and, and_true, false_and, and_false, hu1, hu31, hu91, hu14, hu94, hu19, hu49, hu39, hu42, hu32, hu20, hu21, hu31b, hu01, hu24, hu34]; omega))) km_X5_51 ki_X2_record ke_X2_record kn_X2 kc_X2_record rfl hdV_X2_record ⟨by decide, by decide⟩ (show 4 < 11 ∧ 0 < bs 4 from ⟨by decide, by decide⟩) rfl rfl rfl hl.1 rfl (Nat.le_of_ble_eq_true rfl) dX5_lend_42 (fun w5 H1 locs1 hp5 hW => ?_)
        have hw5 : w5 = _ := hp5
        refine lv_aload_n hx hb dX5_lend_45 rfl (lv_at hl 1 rfl) ?_
        refine r_gR C0 hW (show 0 < 11 ∧ 0 < bs 0 from ⟨by decide, by decide⟩) rfl rfl hiX5 (k := 0) (by decide) kf_X5_12 rfl rfl rfl dX5_lend_46 ?_
        refine r_gR C0 hW (show 1 < 11 ∧ 0 < bs 1 from ⟨by decide, by decide⟩) (ceX_m ms_1 G 0 _ _) rfl hiX3 (k := 2) (by decide) kf_X5_47 rfl rfl rfl dX5_lend_49 ?_
        refine lv_iload_n hx hb dX5_lend_52 rfl (lv_at hl 2 rfl) ?_
        refine lv_iload_n hx hb dX5_lend_53 rfl (lv_at hl 3 rfl) ?_
        refine r_ist C0 hW (show 1 < 11 ∧ 3 < bs 1 from ⟨by decide, by decide⟩) (fun A => (ceX_m ms_1 G 3 _ _)) (n := 20) (v := iI co) (by omega) (by omega) (by decide) dX5_lend_54 (fun H1 locs1 hW => ?_)
        obtain ⟨w6, hw6⟩ : ∃ wq9 : gW, wq9 = up w5 1 (sA (w5 1) 3 pl (iI co)) := ⟨_, rfl⟩
        rw [← hw6] at hW
        refine lv_iload_n hx hb dX5_lend_55 rfl (lv_at hl 0 rfl) ?_
        exact r_iret C0 hW rz3 (by first | exact Or.inl (⟨(by first | assumption | omega | trivial), (by first | omega | assumption | (simp only [hz3])), (by omega)⟩) | exact Or.inr (Or.inl (⟨(by first | assumption | omega | trivial), (by first | assumption | omega | trivial), (by first | assumption | omega | trivial), (by first | omega | assumption | (simp only [hz3])), (by omega)⟩)) | exact Or.inr (Or.inr (⟨(by first | assumption | omega | trivial), (by first | assumption | omega | trivial), (by first | assumption | omega | trivial), (by first | omega | assumption | (simp only [hz3])), (by simp (decide := true) only [hw6, hw5, recW, up_up, up_s, gA_sF, gN_sF, gA_sA, gN_sA, gA_sS, gN_sS, if_true, if_false, true_and, and_true, false_and, and_false, hu1, hu31, hu91, hu14, hu94, hu19, hu49, hu39, hu42, hu32, hu20, hu21, hu31b, hu01, hu24, hu34, hz3])⟩))) dX5_lend_56
      · refine r_bipush hx hb dX5_lend_31 (by decide) ?_
        exact r_iret C0 hW ⟨by omega, by omega⟩ (by first | exact Or.inl (⟨(by first | assumption | omega | trivial), (by first | omega | assumption | (simp only [hz3])), (rfl)⟩) | exact Or.inr (Or.inl (⟨(by first | assumption | omega | trivial), (by first | assumption | omega | trivial), (by first | assumption | omega | trivial), (by first | omega | assumption | (simp only [hz3])), (rfl)⟩)) | exact Or.inr (Or.inr (⟨(by first | assumption | omega | trivial), (by first | assumption | omega | trivial), (by first | assumption | omega | trivial), (by first | omega | assumption | (simp only [hz3])), (by omega)⟩))) dX5_lend_33
    · subst e2
      refine r_if_ne (tgt := 16) hx hb ⟨by omega, by omega⟩ dX5_lend_11 (by decide) (fun q => absurd q (by decide)) (fun _ => ?_)
      refine r_iconst hx hb dX5_lend_14 ?_
      exact r_iret C0 hW ⟨by omega, by omega⟩ (by first | exact Or.inl (⟨(by first | assumption | omega | trivial), (by first | omega | assumption | (simp only [id])), (rfl)⟩) | exact Or.inr (Or.inl (⟨(by first | assumption | omega | trivial), (by first | assumption | omega | trivial), (by first | assumption | omega | trivial), (by first | omega | assumption | (simp only [id])), (rfl)⟩)) | exact Or.inr (Or.inr (⟨(by first | assumption | omega | trivial), (by first | assumption | omega | trivial), (by first | assumption | omega | trivial), (by first | omega | assumption | (simp only [id])), (by omega)⟩))) dX5_lend_15
  · subst e1
    refine r_if_eq (tgt := 14) hx hb ⟨by omega, by omega⟩ dX5_lend_4 (by decide) (fun _ => ?_) (fun q => absurd q (by decide))
    refine r_iconst hx hb dX5_lend_14 ?_
    exact r_iret C0 hW ⟨by omega, by omega⟩ (by first | exact Or.inl (⟨(by first | assumption | omega | trivial), (by first | omega | assumption | (simp only [id])), (rfl)⟩) | exact Or.inr (Or.inl (⟨(by first | assumption | omega | trivial), (by first | assumption | omega | trivial), (by first | assumption | omega | trivial), (by first | omega | assumption | (simp only [id])), (rfl)⟩)) | exact Or.inr (Or.inr (⟨(by first | assumption | omega | trivial), (by first | assumption | omega | trivial), (by first | assumption | omega | trivial), (by first | omega | assumption | (simp only [id])), (by omega)⟩))) dX5_lend_15

/-- X5_handOver: its end -/
def po_X5_handOver (w : gW) (b0 : Nat) (b1 : Nat) (b2 : Nat) (b3 : Nat) (pl : Int) (co : Int) : Int → gW → Prop := fun z w1 => ((¬ ((0 ≤ pl ∧ pl ≤ 19) ∧ (0 ≤ co ∧ co ≤ 9))) ∧ (z = -1) ∧ (w1 = w)) ∨ ((0 ≤ pl ∧ pl ≤ 19) ∧ (0 ≤ co ∧ co ≤ 9) ∧ (gA (w 1) 2 pl = co) ∧ (z = -5) ∧ (w1 = w)) ∨ ((0 ≤ pl ∧ pl ≤ 19) ∧ (0 ≤ co ∧ co ≤ 9) ∧ (¬ gA (w 1) 2 pl = co) ∧ (z = gA (w 1) 2 pl) ∧ (w1 = up (recW w b0 b1 b2 b3) 1 (sA (sA (w 1) 2 pl (iI co)) 3 pl (iI co))))
theorem hdV_X5_handOver : yX5_handOver.cls = RX5 ∧ yX5_handOver.cls ≠ "java/lang/invoke/MethodHandle" ∧ yX5_handOver.cls ≠ "java/lang/invoke/VarHandle" ∧ (parseMethodDescriptor yX5_handOver.desc).map (fun d => d.parameters.length) = some 2 := by decide +kernel
set_option maxHeartbeats 4000000 in
set_option maxRecDepth 100000 in
theorem c_X5_handOver (l : Launch) (G : gG) (w : gW) {b0 : Nat} {b1 : Nat} {b2 : Nat} {b3 : Nat} (hO : okW w b0 b1 b2 b3) (pl : Int) (co : Int) (rpl : inR pl) (rco : inR co) : mI l G yX5_handOver (wU yX5_handOver cX5_handOver 4 (some .int)) (rmL 5 103) [.ref (ad G 0 0), .int (iI pl), .int (iI co)] w (po_X5_handOver w b0 b1 b2 b3 pl co) := by
  refine mI_of (by decide +kernel) (Nat.le_of_ble_eq_true rfl) (fun p e s m args below meth c ls C0 hW hl => ?_)
  have hl : lv_has ls 4 [(0, .ref (ad G 0 0)), (1, .int (iI pl)), (2, .int (iI co))] := hl
  have hx := C0.hx
  have hb := C0.hb
  obtain ⟨hp4, hh, hwfs, hs4, hl9⟩ := id hO
  obtain ⟨q0, q1, q2, q3, n1, n2, n3, n4, n5, n6⟩ := id hp4
  have hwf := hwfs 1 ms_1
  obtain ⟨⟨hs1, hs2⟩, ⟨hd1, hd2, hd3⟩, hwet, -, -, -, ⟨hr1, hr2⟩, ⟨hc1, hc2⟩, hds⟩ := id hwf
  have hu1 : ∀ (w : gW) (M : gM), up w 4 M 1 = w 1 := fun w M => up_n w M (by decide)
  have hu31 : ∀ (w : gW) (M : gM), up w b3 M 1 = w 1 := fun w M => up_n w M (by omega)
  have hu91 : ∀ (w : gW) (M : gM), up w 9 M 1 = w 1 := fun w M => up_n w M (by decide)
  have hu14 : ∀ (w : gW) (M : gM), up w 1 M 4 = w 4 := fun w M => up_n w M (by decide)
  have hu94 : ∀ (w : gW) (M : gM), up w 9 M 4 = w 4 := fun w M => up_n w M (by decide)
  have hu19 : ∀ (w : gW) (M : gM), up w 1 M 9 = w 9 := fun w M => up_n w M (by decide)
  have hu49 : ∀ (w : gW) (M : gM), up w 4 M 9 = w 9 := fun w M => up_n w M (by decide)
  have hu39 : ∀ (w : gW) (M : gM), up w b3 M 9 = w 9 := fun w M => up_n w M (by omega)
  have hu42 : ∀ (w : gW) (M : gM), up w 4 M 2 = w 2 := fun w M => up_n w M (by decide)
  have hu32 : ∀ (w : gW) (M : gM), up w b3 M 2 = w 2 := fun w M => up_n w M (by omega)
  have hu20 : ∀ (w : gW) (M : gM), up w 2 M 0 = w 0 := fun w M => up_n w M (by decide)
  have hu21 : ∀ (w : gW) (M : gM), up w 2 M 1 = w 1 := fun w M => up_n w M (by decide)
  have hu31b : ∀ (w : gW) (M : gM), up w 3 M 1 = w 1 := fun w M => up_n w M (by decide)
  have hu01 : ∀ (w : gW) (M : gM), up w 0 M 1 = w 1 := fun w M => up_n w M (by decide)
  have hu24 : ∀ (w : gW) (M : gM), up w 2 M 4 = w 4 := fun w M => up_n w M (by decide)
  have hu34 : ∀ (w : gW) (M : gM), up w 3 M 4 = w 4 := fun w M => up_n w M (by decide)
  refine lv_iload_n hx hb dX5_handOver_0 rfl (lv_at hl 1 rfl) ?_
  refine k_Si (host := "") C0 hW (As := [.int (iI pl)]) (c_X5_isPlot l G w pl rpl) km_X5_40 ks_X5_isPlot kn_X5 kc_X5_isPlot rfl hdS_X5_isPlot ⟨by decide, by decide⟩ rfl hl.1 rfl (Nat.le_of_ble_eq_true rfl) dX5_handOver_1 (fun z1 w1 H1 locs1 rz1 hp1 hW => ?_)
  obtain ⟨hp1, hq1⟩ := hp1
  subst hq1
  have rz1a := rz1.1
  have rz1b := rz1.2
  rcases hp1 with ⟨e1, hp1⟩ | ⟨e1, hp1⟩
  · subst e1
    refine r_if_eq (tgt := 14) hx hb ⟨by omega, by omega⟩ dX5_handOver_4 (by decide) (fun q => absurd q (by decide)) (fun _ => ?_)
    refine lv_iload_n hx hb dX5_handOver_7 rfl (lv_at hl 2 rfl) ?_
    refine k_Si (host := "") C0 hW (As := [.int (iI co)]) (c_X5_isCommoner l G w co rco) km_X5_44 ks_X5_isCommoner kn_X5 kc_X5_isCommoner rfl hdS_X5_isCommoner ⟨by decide, by decide⟩ rfl hl.1 rfl (Nat.le_of_ble_eq_true rfl) dX5_handOver_8 (fun z2 w2 H1 locs1 rz2 hp2 hW => ?_)
    obtain ⟨hp2, hq2⟩ := hp2
    subst hq2
    have rz2a := rz2.1
    have rz2b := rz2.2
    rcases hp2 with ⟨e2, hp2⟩ | ⟨e2, hp2⟩
    · subst e2
      refine r_if_ne (tgt := 16) hx hb ⟨by omega, by omega⟩ dX5_handOver_11 (by decide) (fun _ => ?_) (fun q => absurd q (by decide))
      refine lv_aload_n hx hb dX5_handOver_16 rfl (lv_at hl 0 rfl) ?_
      refine r_gR C0 hW (show 0 < 11 ∧ 0 < bs 0 from ⟨by decide, by decide⟩) rfl rfl hiX5 (k := 0) (by decide) kf_X5_12 rfl rfl rfl dX5_handOver_17 ?_
      refine r_gR C0 hW (show 1 < 11 ∧ 0 < bs 1 from ⟨by decide, by decide⟩) (ceX_m ms_1 G 0 _ _) rfl hiX3 (k := 1) (by decide) kf_X5_55 rfl rfl rfl dX5_handOver_20 ?_
      refine lv_iload_n hx hb dX5_handOver_23 rfl (lv_at hl 1 rfl) ?_
      refine r_ild C0 hW (show 1 < 11 ∧ 2 < bs 1 from ⟨by decide, by decide⟩) (ceX_m ms_1 G 2 _ _) (n := 20) (by omega) (by omega) (by omega) dX5_handOver_24 (fun z3 (hz3 : z3 = gA (w 1) 2 pl) rz3 => ?_)
      have rz3a := rz3.1
      have rz3b := rz3.2
      refine lv_istore_n (lv' := [(3, .int (iI z3)), (0, .ref (ad G 0 0)), (1, .int (iI pl)), (2, .int (iI co))]) hx hb dX5_handOver_25 rfl hl (by decide) rfl (fun ls hl => ?_)
      refine lv_iload_n hx hb dX5_handOver_26 rfl (lv_at hl 0 rfl) ?_
      refine lv_iload_n hx hb dX5_handOver_27 rfl (lv_at hl 3 rfl) ?_
      refine r_icmp_ne (tgt := 34) hx hb rz3 rco dX5_handOver_28 (by decide) (fun c4 => ?_) (fun c4 => ?_)
      · refine lv_aload_n hx hb dX5_handOver_34 rfl (lv_at hl 1 rfl) ?_
        refine r_gR C0 hW (show 0 < 11 ∧ 0 < bs 0 from ⟨by decide, by decide⟩) rfl rfl hiX5 (k := 3) (by decide) kf_X5_25 rfl rfl rfl dX5_handOver_35 ?_
        refine lv_aload_n hx hb dX5_handOver_38 rfl (lv_at hl 1 rfl) ?_
        refine r_gR C0 hW (show 0 < 11 ∧ 0 < bs 0 from ⟨by decide, by decide⟩) rfl rfl hiX5 (k := 0) (by decide) kf_X5_12 rfl rfl rfl dX5_handOver_39 ?_
        refine k_Vv (j := 4) (k0 := 0) C0 hW (c_X2_record l G w (hp4) hh hwf (by first | omega | (simp (decide := true) only [id, up_s, gA_sF, gN_sF, gA_sA, gN_sA, gA_sS, gN_sS, if_true, if_false, true_and, and_true, false_and, and_false, hu1, hu31, hu91, hu14, hu94, hu19, hu49, hu39, hu42, hu32, hu20, hu21, hu31b, hu01, hu24, hu34]; omega))) km_X5_51 ki_X2_record ke_X2_record kn_X2 kc_X2_record rfl hdV_X2_record ⟨by decide, by decide⟩ (show 4 < 11 ∧ 0 < bs 4 from ⟨by decide, by decide⟩) rfl rfl rfl hl.1 rfl (Nat.le_of_ble_eq_true rfl) dX5_handOver_42 (fun w5 H1 locs1 hp5 hW => ?_)
        have hw5 : w5 = _ := hp5
        refine lv_aload_n hx hb dX5_handOver_45 rfl (lv_at hl 1 rfl) ?_
        refine r_gR C0 hW (show 0 < 11 ∧ 0 < bs 0 from ⟨by decide, by decide⟩) rfl rfl hiX5 (k := 0) (by decide) kf_X5_12 rfl rfl rfl dX5_handOver_46 ?_
        refine r_gR C0 hW (show 1 < 11 ∧ 0 < bs 1 from ⟨by decide, by decide⟩) (ceX_m ms_1 G 0 _ _) rfl hiX3 (k := 1) (by decide) kf_X5_55 rfl rfl rfl dX5_handOver_49 ?_
        refine lv_iload_n hx hb dX5_handOver_52 rfl (lv_at hl 2 rfl) ?_
        refine lv_iload_n hx hb dX5_handOver_53 rfl (lv_at hl 3 rfl) ?_
        refine r_ist C0 hW (show 1 < 11 ∧ 2 < bs 1 from ⟨by decide, by decide⟩) (fun A => (ceX_m ms_1 G 2 _ _)) (n := 20) (v := iI co) (by omega) (by omega) (by decide) dX5_handOver_54 (fun H1 locs1 hW => ?_)
        obtain ⟨w6, hw6⟩ : ∃ wq9 : gW, wq9 = up w5 1 (sA (w5 1) 2 pl (iI co)) := ⟨_, rfl⟩
        rw [← hw6] at hW
        refine lv_aload_n hx hb dX5_handOver_55 rfl (lv_at hl 1 rfl) ?_
        refine r_gR C0 hW (show 0 < 11 ∧ 0 < bs 0 from ⟨by decide, by decide⟩) rfl rfl hiX5 (k := 0) (by decide) kf_X5_12 rfl rfl rfl dX5_handOver_56 ?_
        refine r_gR C0 hW (show 1 < 11 ∧ 0 < bs 1 from ⟨by decide, by decide⟩) (ceX_m ms_1 G 0 _ _) rfl hiX3 (k := 2) (by decide) kf_X5_47 rfl rfl rfl dX5_handOver_59 ?_
        refine lv_iload_n hx hb dX5_handOver_62 rfl (lv_at hl 2 rfl) ?_
        refine lv_iload_n hx hb dX5_handOver_63 rfl (lv_at hl 3 rfl) ?_
        refine r_ist C0 hW (show 1 < 11 ∧ 3 < bs 1 from ⟨by decide, by decide⟩) (fun A => (ceX_m ms_1 G 3 _ _)) (n := 20) (v := iI co) (by omega) (by omega) (by decide) dX5_handOver_64 (fun H1 locs1 hW => ?_)
        obtain ⟨w7, hw7⟩ : ∃ wq9 : gW, wq9 = up w6 1 (sA (w6 1) 3 pl (iI co)) := ⟨_, rfl⟩
        rw [← hw7] at hW
        refine lv_iload_n hx hb dX5_handOver_65 rfl (lv_at hl 0 rfl) ?_
        exact r_iret C0 hW rz3 (by first | exact Or.inl (⟨(by first | assumption | omega | trivial), (by first | omega | assumption | (simp only [hz3])), (by omega)⟩) | exact Or.inr (Or.inl (⟨(by first | assumption | omega | trivial), (by first | assumption | omega | trivial), (by first | assumption | omega | trivial), (by first | omega | assumption | (simp only [hz3])), (by omega)⟩)) | exact Or.inr (Or.inr (⟨(by first | assumption | omega | trivial), (by first | assumption | omega | trivial), (by first | assumption | omega | trivial), (by first | omega | assumption | (simp only [hz3])), (by simp (decide := true) only [hw7, hw6, hw5, recW, up_up, up_s, gA_sF, gN_sF, gA_sA, gN_sA, gA_sS, gN_sS, if_true, if_false, true_and, and_true, false_and, and_false, hu1, hu31, hu91, hu14, hu94, hu19, hu49, hu39, hu42, hu32, hu20, hu21, hu31b, hu01, hu24, hu34, hz3])⟩))) dX5_handOver_66
      · refine r_bipush hx hb dX5_handOver_31 (by decide) ?_
        exact r_iret C0 hW ⟨by omega, by omega⟩ (by first | exact Or.inl (⟨(by first | assumption | omega | trivial), (by first | omega | assumption | (simp only [hz3])), (rfl)⟩) | exact Or.inr (Or.inl (⟨(by first | assumption | omega | trivial), (by first | assumption | omega | trivial), (by first | assumption | omega | trivial), (by first | omega | assumption | (simp only [hz3])), (rfl)⟩)) | exact Or.inr (Or.inr (⟨(by first | assumption | omega | trivial), (by first | assumption | omega | trivial), (by first | assumption | omega | trivial), (by first | omega | assumption | (simp only [hz3])), (by omega)⟩))) dX5_handOver_33
    · subst e2
      refine r_if_ne (tgt := 16) hx hb ⟨by omega, by omega⟩ dX5_handOver_11 (by decide) (fun q => absurd q (by decide)) (fun _ => ?_)
      refine r_iconst hx hb dX5_handOver_14 ?_
      exact r_iret C0 hW ⟨by omega, by omega⟩ (by first | exact Or.inl (⟨(by first | assumption | omega | trivial), (by first | omega | assumption | (simp only [id])), (rfl)⟩) | exact Or.inr (Or.inl (⟨(by first | assumption | omega | trivial), (by first | assumption | omega | trivial), (by first | assumption | omega | trivial), (by first | omega | assumption | (simp only [id])), (rfl)⟩)) | exact Or.inr (Or.inr (⟨(by first | assumption | omega | trivial), (by first | assumption | omega | trivial), (by first | assumption | omega | trivial), (by first | omega | assumption | (simp only [id])), (by omega)⟩))) dX5_handOver_15
  · subst e1
    refine r_if_eq (tgt := 14) hx hb ⟨by omega, by omega⟩ dX5_handOver_4 (by decide) (fun _ => ?_) (fun q => absurd q (by decide))
    refine r_iconst hx hb dX5_handOver_14 ?_
    exact r_iret C0 hW ⟨by omega, by omega⟩ (by first | exact Or.inl (⟨(by first | assumption | omega | trivial), (by first | omega | assumption | (simp only [id])), (rfl)⟩) | exact Or.inr (Or.inl (⟨(by first | assumption | omega | trivial), (by first | assumption | omega | trivial), (by first | assumption | omega | trivial), (by first | omega | assumption | (simp only [id])), (rfl)⟩)) | exact Or.inr (Or.inr (⟨(by first | assumption | omega | trivial), (by first | assumption | omega | trivial), (by first | assumption | omega | trivial), (by first | omega | assumption | (simp only [id])), (by omega)⟩))) dX5_handOver_15

/-- X5_setDays: its end -/
def po_X5_setDays (w : gW) (b0 : Nat) (b1 : Nat) (b2 : Nat) (b3 : Nat) (co : Int) (dy : Int) : Int → gW → Prop := fun z w1 => ((¬ (0 ≤ co ∧ co ≤ 9)) ∧ (z = -1) ∧ (w1 = w)) ∨ ((0 ≤ co ∧ co ≤ 9) ∧ (¬ (0 ≤ dy ∧ dy ≤ 20)) ∧ (z = -2) ∧ (w1 = w)) ∨ ((0 ≤ co ∧ co ≤ 9) ∧ (0 ≤ dy ∧ dy ≤ 20) ∧ (gA (w 1) 4 co = dy) ∧ (z = -5) ∧ (w1 = w)) ∨ ((0 ≤ co ∧ co ≤ 9) ∧ (0 ≤ dy ∧ dy ≤ 20) ∧ (¬ gA (w 1) 4 co = dy) ∧ (z = gA (w 1) 4 co) ∧ (w1 = up (recW w b0 b1 b2 b3) 1 (sA (w 1) 4 co (iI dy))))
theorem hdV_X5_setDays : yX5_setDays.cls = RX5 ∧ yX5_setDays.cls ≠ "java/lang/invoke/MethodHandle" ∧ yX5_setDays.cls ≠ "java/lang/invoke/VarHandle" ∧ (parseMethodDescriptor yX5_setDays.desc).map (fun d => d.parameters.length) = some 2 := by decide +kernel
set_option maxHeartbeats 4000000 in
set_option maxRecDepth 100000 in
theorem c_X5_setDays (l : Launch) (G : gG) (w : gW) {b0 : Nat} {b1 : Nat} {b2 : Nat} {b3 : Nat} (hO : okW w b0 b1 b2 b3) (co : Int) (dy : Int) (rco : inR co) (rdy : inR dy) : mI l G yX5_setDays (wU yX5_setDays cX5_setDays 4 (some .int)) (rmL 5 103) [.ref (ad G 0 0), .int (iI co), .int (iI dy)] w (po_X5_setDays w b0 b1 b2 b3 co dy) := by
  refine mI_of (by decide +kernel) (Nat.le_of_ble_eq_true rfl) (fun p e s m args below meth c ls C0 hW hl => ?_)
  have hl : lv_has ls 4 [(0, .ref (ad G 0 0)), (1, .int (iI co)), (2, .int (iI dy))] := hl
  have hx := C0.hx
  have hb := C0.hb
  obtain ⟨hp4, hh, hwfs, hs4, hl9⟩ := id hO
  obtain ⟨q0, q1, q2, q3, n1, n2, n3, n4, n5, n6⟩ := id hp4
  have hwf := hwfs 1 ms_1
  obtain ⟨⟨hs1, hs2⟩, ⟨hd1, hd2, hd3⟩, hwet, -, -, -, ⟨hr1, hr2⟩, ⟨hc1, hc2⟩, hds⟩ := id hwf
  have hu1 : ∀ (w : gW) (M : gM), up w 4 M 1 = w 1 := fun w M => up_n w M (by decide)
  have hu31 : ∀ (w : gW) (M : gM), up w b3 M 1 = w 1 := fun w M => up_n w M (by omega)
  have hu91 : ∀ (w : gW) (M : gM), up w 9 M 1 = w 1 := fun w M => up_n w M (by decide)
  have hu14 : ∀ (w : gW) (M : gM), up w 1 M 4 = w 4 := fun w M => up_n w M (by decide)
  have hu94 : ∀ (w : gW) (M : gM), up w 9 M 4 = w 4 := fun w M => up_n w M (by decide)
  have hu19 : ∀ (w : gW) (M : gM), up w 1 M 9 = w 9 := fun w M => up_n w M (by decide)
  have hu49 : ∀ (w : gW) (M : gM), up w 4 M 9 = w 9 := fun w M => up_n w M (by decide)
  have hu39 : ∀ (w : gW) (M : gM), up w b3 M 9 = w 9 := fun w M => up_n w M (by omega)
  have hu42 : ∀ (w : gW) (M : gM), up w 4 M 2 = w 2 := fun w M => up_n w M (by decide)
  have hu32 : ∀ (w : gW) (M : gM), up w b3 M 2 = w 2 := fun w M => up_n w M (by omega)
  have hu20 : ∀ (w : gW) (M : gM), up w 2 M 0 = w 0 := fun w M => up_n w M (by decide)
  have hu21 : ∀ (w : gW) (M : gM), up w 2 M 1 = w 1 := fun w M => up_n w M (by decide)
  have hu31b : ∀ (w : gW) (M : gM), up w 3 M 1 = w 1 := fun w M => up_n w M (by decide)
  have hu01 : ∀ (w : gW) (M : gM), up w 0 M 1 = w 1 := fun w M => up_n w M (by decide)
  have hu24 : ∀ (w : gW) (M : gM), up w 2 M 4 = w 4 := fun w M => up_n w M (by decide)
  have hu34 : ∀ (w : gW) (M : gM), up w 3 M 4 = w 4 := fun w M => up_n w M (by decide)
  refine lv_iload_n hx hb dX5_setDays_0 rfl (lv_at hl 1 rfl) ?_
  refine k_Si (host := "") C0 hW (As := [.int (iI co)]) (c_X5_isCommoner l G w co rco) km_X5_44 ks_X5_isCommoner kn_X5 kc_X5_isCommoner rfl hdS_X5_isCommoner ⟨by decide, by decide⟩ rfl hl.1 rfl (Nat.le_of_ble_eq_true rfl) dX5_setDays_1 (fun z1 w1 H1 locs1 rz1 hp1 hW => ?_)
  obtain ⟨hp1, hq1⟩ := hp1
  subst hq1
  have rz1a := rz1.1
  have rz1b := rz1.2
  rcases hp1 with ⟨e1, hp1⟩ | ⟨e1, hp1⟩
  · subst e1
    refine r_if_ne (tgt := 9) hx hb ⟨by omega, by omega⟩ dX5_setDays_4 (by decide) (fun _ => ?_) (fun q => absurd q (by decide))
    refine lv_iload_n hx hb dX5_setDays_9 rfl (lv_at hl 2 rfl) ?_
    refine r_iconst hx hb dX5_setDays_10 ?_
    refine r_bipush hx hb dX5_setDays_11 (by decide) ?_
    refine k_Si (host := "") C0 hW (As := [.int (iI dy), .int (iI 0), .int (iI 20)]) (c_X5_isWithin l G w dy 0 20 rdy ⟨by omega, by omega⟩ ⟨by omega, by omega⟩) km_X5_58 ks_X5_isWithin kn_X5 kc_X5_isWithin rfl hdS_X5_isWithin ⟨by decide, by decide⟩ rfl hl.1 rfl (Nat.le_of_ble_eq_true rfl) dX5_setDays_13 (fun z2 w2 H1 locs1 rz2 hp2 hW => ?_)
    obtain ⟨hp2, hq2⟩ := hp2
    subst hq2
    have rz2a := rz2.1
    have rz2b := rz2.2
    rcases hp2 with ⟨e2, hp2⟩ | ⟨e2, hp2⟩
    · subst e2
      refine r_if_ne (tgt := 22) hx hb ⟨by omega, by omega⟩ dX5_setDays_16 (by decide) (fun _ => ?_) (fun q => absurd q (by decide))
      refine lv_aload_n hx hb dX5_setDays_22 rfl (lv_at hl 0 rfl) ?_
      refine r_gR C0 hW (show 0 < 11 ∧ 0 < bs 0 from ⟨by decide, by decide⟩) rfl rfl hiX5 (k := 0) (by decide) kf_X5_12 rfl rfl rfl dX5_setDays_23 ?_
      refine r_gR C0 hW (show 1 < 11 ∧ 0 < bs 1 from ⟨by decide, by decide⟩) (ceX_m ms_1 G 0 _ _) rfl hiX3 (k := 3) (by decide) kf_X5_62 rfl rfl rfl dX5_setDays_26 ?_
      refine lv_iload_n hx hb dX5_setDays_29 rfl (lv_at hl 1 rfl) ?_
      refine r_ild C0 hW (show 1 < 11 ∧ 4 < bs 1 from ⟨by decide, by decide⟩) (ceX_m ms_1 G 4 _ _) (n := 10) (by omega) (by omega) (by omega) dX5_setDays_30 (fun z3 (hz3 : z3 = gA (w 1) 4 co) rz3 => ?_)
      have rz3a := rz3.1
      have rz3b := rz3.2
      refine lv_istore_n (lv' := [(3, .int (iI z3)), (0, .ref (ad G 0 0)), (1, .int (iI co)), (2, .int (iI dy))]) hx hb dX5_setDays_31 rfl hl (by decide) rfl (fun ls hl => ?_)
      refine lv_iload_n hx hb dX5_setDays_32 rfl (lv_at hl 0 rfl) ?_
      refine lv_iload_n hx hb dX5_setDays_33 rfl (lv_at hl 3 rfl) ?_
      refine r_icmp_ne (tgt := 40) hx hb rz3 rdy dX5_setDays_34 (by decide) (fun c4 => ?_) (fun c4 => ?_)
      · refine lv_aload_n hx hb dX5_setDays_40 rfl (lv_at hl 1 rfl) ?_
        refine r_gR C0 hW (show 0 < 11 ∧ 0 < bs 0 from ⟨by decide, by decide⟩) rfl rfl hiX5 (k := 3) (by decide) kf_X5_25 rfl rfl rfl dX5_setDays_41 ?_
        refine lv_aload_n hx hb dX5_setDays_44 rfl (lv_at hl 1 rfl) ?_
        refine r_gR C0 hW (show 0 < 11 ∧ 0 < bs 0 from ⟨by decide, by decide⟩) rfl rfl hiX5 (k := 0) (by decide) kf_X5_12 rfl rfl rfl dX5_setDays_45 ?_
        refine k_Vv (j := 4) (k0 := 0) C0 hW (c_X2_record l G w (hp4) hh hwf (by first | omega | (simp (decide := true) only [id, up_s, gA_sF, gN_sF, gA_sA, gN_sA, gA_sS, gN_sS, if_true, if_false, true_and, and_true, false_and, and_false, hu1, hu31, hu91, hu14, hu94, hu19, hu49, hu39, hu42, hu32, hu20, hu21, hu31b, hu01, hu24, hu34]; omega))) km_X5_51 ki_X2_record ke_X2_record kn_X2 kc_X2_record rfl hdV_X2_record ⟨by decide, by decide⟩ (show 4 < 11 ∧ 0 < bs 4 from ⟨by decide, by decide⟩) rfl rfl rfl hl.1 rfl (Nat.le_of_ble_eq_true rfl) dX5_setDays_48 (fun w5 H1 locs1 hp5 hW => ?_)
        have hw5 : w5 = _ := hp5
        refine lv_aload_n hx hb dX5_setDays_51 rfl (lv_at hl 1 rfl) ?_
        refine r_gR C0 hW (show 0 < 11 ∧ 0 < bs 0 from ⟨by decide, by decide⟩) rfl rfl hiX5 (k := 0) (by decide) kf_X5_12 rfl rfl rfl dX5_setDays_52 ?_
        refine r_gR C0 hW (show 1 < 11 ∧ 0 < bs 1 from ⟨by decide, by decide⟩) (ceX_m ms_1 G 0 _ _) rfl hiX3 (k := 3) (by decide) kf_X5_62 rfl rfl rfl dX5_setDays_55 ?_
        refine lv_iload_n hx hb dX5_setDays_58 rfl (lv_at hl 2 rfl) ?_
        refine lv_iload_n hx hb dX5_setDays_59 rfl (lv_at hl 3 rfl) ?_
        refine r_ist C0 hW (show 1 < 11 ∧ 4 < bs 1 from ⟨by decide, by decide⟩) (fun A => (ceX_m ms_1 G 4 _ _)) (n := 10) (v := iI dy) (by omega) (by omega) (by decide) dX5_setDays_60 (fun H1 locs1 hW => ?_)
        obtain ⟨w6, hw6⟩ : ∃ wq9 : gW, wq9 = up w5 1 (sA (w5 1) 4 co (iI dy)) := ⟨_, rfl⟩
        rw [← hw6] at hW
        refine lv_iload_n hx hb dX5_setDays_61 rfl (lv_at hl 0 rfl) ?_
        exact r_iret C0 hW rz3 (by first | exact Or.inl (⟨(by first | assumption | omega | trivial), (by first | omega | assumption | (simp only [hz3])), (by omega)⟩) | exact Or.inr (Or.inl (⟨(by first | assumption | omega | trivial), (by first | assumption | omega | trivial), (by first | omega | assumption | (simp only [hz3])), (by omega)⟩)) | exact Or.inr (Or.inr (Or.inl (⟨(by first | assumption | omega | trivial), (by first | assumption | omega | trivial), (by first | assumption | omega | trivial), (by first | omega | assumption | (simp only [hz3])), (by omega)⟩))) | exact Or.inr (Or.inr (Or.inr (⟨(by first | assumption | omega | trivial), (by first | assumption | omega | trivial), (by first | assumption | omega | trivial), (by first | omega | assumption | (simp only [hz3])), (by simp (decide := true) only [hw6, hw5, recW, up_up, up_s, gA_sF, gN_sF, gA_sA, gN_sA, gA_sS, gN_sS, if_true, if_false, true_and, and_true, false_and, and_false, hu1, hu31, hu91, hu14, hu94, hu19, hu49, hu39, hu42, hu32, hu20, hu21, hu31b, hu01, hu24, hu34, hz3])⟩)))) dX5_setDays_62
      · refine r_bipush hx hb dX5_setDays_37 (by decide) ?_
        exact r_iret C0 hW ⟨by omega, by omega⟩ (by first | exact Or.inl (⟨(by first | assumption | omega | trivial), (by first | omega | assumption | (simp only [hz3])), (rfl)⟩) | exact Or.inr (Or.inl (⟨(by first | assumption | omega | trivial), (by first | assumption | omega | trivial), (by first | omega | assumption | (simp only [hz3])), (rfl)⟩)) | exact Or.inr (Or.inr (Or.inl (⟨(by first | assumption | omega | trivial), (by first | assumption | omega | trivial), (by first | assumption | omega | trivial), (by first | omega | assumption | (simp only [hz3])), (rfl)⟩))) | exact Or.inr (Or.inr (Or.inr (⟨(by first | assumption | omega | trivial), (by first | assumption | omega | trivial), (by first | assumption | omega | trivial), (by first | omega | assumption | (simp only [hz3])), (by omega)⟩)))) dX5_setDays_39
    · subst e2
      refine r_if_ne (tgt := 22) hx hb ⟨by omega, by omega⟩ dX5_setDays_16 (by decide) (fun q => absurd q (by decide)) (fun _ => ?_)
      refine r_bipush hx hb dX5_setDays_19 (by decide) ?_
      exact r_iret C0 hW ⟨by omega, by omega⟩ (by first | exact Or.inl (⟨(by first | assumption | omega | trivial), (by first | omega | assumption | (simp only [id])), (rfl)⟩) | exact Or.inr (Or.inl (⟨(by first | assumption | omega | trivial), (by first | assumption | omega | trivial), (by first | omega | assumption | (simp only [id])), (rfl)⟩)) | exact Or.inr (Or.inr (Or.inl (⟨(by first | assumption | omega | trivial), (by first | assumption | omega | trivial), (by first | assumption | omega | trivial), (by first | omega | assumption | (simp only [id])), (rfl)⟩))) | exact Or.inr (Or.inr (Or.inr (⟨(by first | assumption | omega | trivial), (by first | assumption | omega | trivial), (by first | assumption | omega | trivial), (by first | omega | assumption | (simp only [id])), (by omega)⟩)))) dX5_setDays_21
  · subst e1
    refine r_if_ne (tgt := 9) hx hb ⟨by omega, by omega⟩ dX5_setDays_4 (by decide) (fun q => absurd q (by decide)) (fun _ => ?_)
    refine r_iconst hx hb dX5_setDays_7 ?_
    exact r_iret C0 hW ⟨by omega, by omega⟩ (by first | exact Or.inl (⟨(by first | assumption | omega | trivial), (by first | omega | assumption | (simp only [id])), (rfl)⟩) | exact Or.inr (Or.inl (⟨(by first | assumption | omega | trivial), (by first | assumption | omega | trivial), (by first | omega | assumption | (simp only [id])), (rfl)⟩)) | exact Or.inr (Or.inr (Or.inl (⟨(by first | assumption | omega | trivial), (by first | assumption | omega | trivial), (by first | assumption | omega | trivial), (by first | omega | assumption | (simp only [id])), (rfl)⟩))) | exact Or.inr (Or.inr (Or.inr (⟨(by first | assumption | omega | trivial), (by first | assumption | omega | trivial), (by first | assumption | omega | trivial), (by first | omega | assumption | (simp only [id])), (by omega)⟩)))) dX5_setDays_8

/-- X5_set: its end -/
def po_X5_set (w : gW) (b0 : Nat) (b1 : Nat) (b2 : Nat) (b3 : Nat) (q : Int) (x : Int) : Int → gW → Prop := fun z w1 => ((¬ ((q = 0 ∧ 1 ≤ x ∧ x ≤ 6) ∨ (q = 1 ∧ 0 ≤ x ∧ x ≤ 1))) ∧ (z = -2) ∧ (w1 = w)) ∨ ((q = 0 ∧ 1 ≤ x ∧ x ≤ 6) ∧ (gN (w 1) 0 8 = x) ∧ (z = -5) ∧ (w1 = w)) ∨ ((q = 1 ∧ 0 ≤ x ∧ x ≤ 1) ∧ (gN (w 1) 0 9 = x) ∧ (z = -5) ∧ (w1 = w)) ∨ ((q = 0 ∧ 1 ≤ x ∧ x ≤ 6) ∧ (¬ gN (w 1) 0 8 = x) ∧ (z = gN (w 1) 0 8) ∧ (w1 = up (recW w b0 b1 b2 b3) 1 (sS (w 1) 0 8 (iI x)))) ∨ ((q = 1 ∧ 0 ≤ x ∧ x ≤ 1) ∧ (¬ gN (w 1) 0 9 = x) ∧ (z = gN (w 1) 0 9) ∧ (w1 = up (recW w b0 b1 b2 b3) 1 (sS (w 1) 0 9 (iI x))))
theorem hdV_X5_set : yX5_set.cls = RX5 ∧ yX5_set.cls ≠ "java/lang/invoke/MethodHandle" ∧ yX5_set.cls ≠ "java/lang/invoke/VarHandle" ∧ (parseMethodDescriptor yX5_set.desc).map (fun d => d.parameters.length) = some 2 := by decide +kernel
set_option maxHeartbeats 4000000 in
set_option maxRecDepth 100000 in
theorem c_X5_set (l : Launch) (G : gG) (w : gW) {b0 : Nat} {b1 : Nat} {b2 : Nat} {b3 : Nat} (hO : okW w b0 b1 b2 b3) (q : Int) (x : Int) (rq : inR q) (rx : inR x) : mI l G yX5_set (wU yX5_set cX5_set 4 (some .int)) (rmL 5 103) [.ref (ad G 0 0), .int (iI q), .int (iI x)] w (po_X5_set w b0 b1 b2 b3 q x) := by
  refine mI_of (by decide +kernel) (Nat.le_of_ble_eq_true rfl) (fun p e s m args below meth c ls C0 hW hl => ?_)
  have hl : lv_has ls 4 [(0, .ref (ad G 0 0)), (1, .int (iI q)), (2, .int (iI x))] := hl
  have hx := C0.hx
  have hb := C0.hb
  obtain ⟨hp4, hh, hwfs, hs4, hl9⟩ := id hO
  obtain ⟨q0, q1, q2, q3, n1, n2, n3, n4, n5, n6⟩ := id hp4
  have hwf := hwfs 1 ms_1
  obtain ⟨⟨hs1, hs2⟩, ⟨hd1, hd2, hd3⟩, hwet, -, -, -, ⟨hr1, hr2⟩, ⟨hc1, hc2⟩, hds⟩ := id hwf
  have hu1 : ∀ (w : gW) (M : gM), up w 4 M 1 = w 1 := fun w M => up_n w M (by decide)
  have hu31 : ∀ (w : gW) (M : gM), up w b3 M 1 = w 1 := fun w M => up_n w M (by omega)
  have hu91 : ∀ (w : gW) (M : gM), up w 9 M 1 = w 1 := fun w M => up_n w M (by decide)
  have hu14 : ∀ (w : gW) (M : gM), up w 1 M 4 = w 4 := fun w M => up_n w M (by decide)
  have hu94 : ∀ (w : gW) (M : gM), up w 9 M 4 = w 4 := fun w M => up_n w M (by decide)
  have hu19 : ∀ (w : gW) (M : gM), up w 1 M 9 = w 9 := fun w M => up_n w M (by decide)
  have hu49 : ∀ (w : gW) (M : gM), up w 4 M 9 = w 9 := fun w M => up_n w M (by decide)
  have hu39 : ∀ (w : gW) (M : gM), up w b3 M 9 = w 9 := fun w M => up_n w M (by omega)
  have hu42 : ∀ (w : gW) (M : gM), up w 4 M 2 = w 2 := fun w M => up_n w M (by decide)
  have hu32 : ∀ (w : gW) (M : gM), up w b3 M 2 = w 2 := fun w M => up_n w M (by omega)
  have hu20 : ∀ (w : gW) (M : gM), up w 2 M 0 = w 0 := fun w M => up_n w M (by decide)
  have hu21 : ∀ (w : gW) (M : gM), up w 2 M 1 = w 1 := fun w M => up_n w M (by decide)
  have hu31b : ∀ (w : gW) (M : gM), up w 3 M 1 = w 1 := fun w M => up_n w M (by decide)
  have hu01 : ∀ (w : gW) (M : gM), up w 0 M 1 = w 1 := fun w M => up_n w M (by decide)
  have hu24 : ∀ (w : gW) (M : gM), up w 2 M 4 = w 4 := fun w M => up_n w M (by decide)
  have hu34 : ∀ (w : gW) (M : gM), up w 3 M 4 = w 4 := fun w M => up_n w M (by decide)
  refine lv_iload_n hx hb dX5_set_0 rfl (lv_at hl 1 rfl) ?_
  refine lv_iload_n hx hb dX5_set_1 rfl (lv_at hl 2 rfl) ?_
  refine k_Si (host := "") C0 hW (As := [.int (iI q), .int (iI x)]) (c_X5_isSettingValue l G w q x rq rx) km_X5_65 ks_X5_isSettingValue kn_X5 kc_X5_isSettingValue rfl hdS_X5_isSettingValue ⟨by decide, by decide⟩ rfl hl.1 rfl (Nat.le_of_ble_eq_true rfl) dX5_set_2 (fun z1 w1 H1 locs1 rz1 hp1 hW => ?_)
  obtain ⟨hp1, hq1⟩ := hp1
  subst hq1
  have rz1a := rz1.1
  have rz1b := rz1.2
  rcases hp1 with ⟨e1, hp1⟩ | ⟨e1, hp1⟩
  · subst e1
    refine r_if_ne (tgt := 11) hx hb ⟨by omega, by omega⟩ dX5_set_5 (by decide) (fun _ => ?_) (fun q => absurd q (by decide))
    refine lv_iload_n hx hb dX5_set_11 rfl (lv_at hl 1 rfl) ?_
    refine r_if_ne (tgt := 25) hx hb rq dX5_set_12 (by decide) (fun c2 => ?_) (fun c2 => ?_)
    · refine lv_aload_n hx hb dX5_set_25 rfl (lv_at hl 0 rfl) ?_
      refine r_gR C0 hW (show 0 < 11 ∧ 0 < bs 0 from ⟨by decide, by decide⟩) rfl rfl hiX5 (k := 0) (by decide) kf_X5_12 rfl rfl rfl dX5_set_26 ?_
      refine r_gI C0 hW (show 1 < 11 ∧ 0 < bs 1 from ⟨by decide, by decide⟩) (ceX_m ms_1 G 0 _ _) rfl hiX3 (k := 9) (by decide) kf_X5_73 rfl rfl rfl dX5_set_29 (fun z3 (hz3 : z3 = gN (w 1) 0 9) rz3 => ?_)
      have rz3a := rz3.1
      have rz3b := rz3.2
      refine lv_istore_n (lv' := [(3, .int (iI z3)), (0, .ref (ad G 0 0)), (1, .int (iI q)), (2, .int (iI x))]) hx hb dX5_set_32 rfl hl (by decide) rfl (fun ls hl => ?_)
      refine lv_iload_n hx hb dX5_set_33 rfl (lv_at hl 0 rfl) ?_
      refine lv_iload_n hx hb dX5_set_34 rfl (lv_at hl 3 rfl) ?_
      refine r_icmp_ne (tgt := 41) hx hb rz3 rx dX5_set_35 (by decide) (fun c4 => ?_) (fun c4 => ?_)
      · refine lv_aload_n hx hb dX5_set_41 rfl (lv_at hl 1 rfl) ?_
        refine r_gR C0 hW (show 0 < 11 ∧ 0 < bs 0 from ⟨by decide, by decide⟩) rfl rfl hiX5 (k := 3) (by decide) kf_X5_25 rfl rfl rfl dX5_set_42 ?_
        refine lv_aload_n hx hb dX5_set_45 rfl (lv_at hl 1 rfl) ?_
        refine r_gR C0 hW (show 0 < 11 ∧ 0 < bs 0 from ⟨by decide, by decide⟩) rfl rfl hiX5 (k := 0) (by decide) kf_X5_12 rfl rfl rfl dX5_set_46 ?_
        refine k_Vv (j := 4) (k0 := 0) C0 hW (c_X2_record l G w (hp4) hh hwf (by first | omega | (simp (decide := true) only [id, up_s, gA_sF, gN_sF, gA_sA, gN_sA, gA_sS, gN_sS, if_true, if_false, true_and, and_true, false_and, and_false, hu1, hu31, hu91, hu14, hu94, hu19, hu49, hu39, hu42, hu32, hu20, hu21, hu31b, hu01, hu24, hu34]; omega))) km_X5_51 ki_X2_record ke_X2_record kn_X2 kc_X2_record rfl hdV_X2_record ⟨by decide, by decide⟩ (show 4 < 11 ∧ 0 < bs 4 from ⟨by decide, by decide⟩) rfl rfl rfl hl.1 rfl (Nat.le_of_ble_eq_true rfl) dX5_set_49 (fun w5 H1 locs1 hp5 hW => ?_)
        have hw5 : w5 = _ := hp5
        refine lv_iload_n hx hb dX5_set_52 rfl (lv_at hl 2 rfl) ?_
        refine r_if_ne (tgt := 67) hx hb rq dX5_set_53 (by decide) (fun c6 => ?_) (fun c6 => ?_)
        · refine lv_aload_n hx hb dX5_set_67 rfl (lv_at hl 1 rfl) ?_
          refine r_gR C0 hW (show 0 < 11 ∧ 0 < bs 0 from ⟨by decide, by decide⟩) rfl rfl hiX5 (k := 0) (by decide) kf_X5_12 rfl rfl rfl dX5_set_68 ?_
          refine lv_iload_n hx hb dX5_set_71 rfl (lv_at hl 3 rfl) ?_
          refine r_pI C0 hW (show 1 < 11 ∧ 0 < bs 1 from ⟨by decide, by decide⟩) (ceX_m ms_1 G 0 _ _) rfl hiX3 tyX3 tyX3_ok nmX3 (k := 9) (v := iI x) (by decide) kf_X5_73 rfl rfl rfl (tyX3_ok 9 (by decide)) rfl rfl (by simp) (ceX_m ms_1 G 0 _ _) dX5_set_72 (fun H1 locs1 hW => ?_)
          obtain ⟨w7, hw7⟩ : ∃ wq9 : gW, wq9 = up w5 1 (sS (w5 1) 0 9 (iI x)) := ⟨_, rfl⟩
          rw [← hw7] at hW
          refine lv_iload_n hx hb dX5_set_75 rfl (lv_at hl 0 rfl) ?_
          exact r_iret C0 hW rz3 (by first | exact Or.inl (⟨(by first | assumption | omega | trivial), (by first | omega | assumption | (simp only [hz3])), (by omega)⟩) | exact Or.inr (Or.inl (⟨(by first | assumption | omega | trivial), (by first | assumption | omega | trivial), (by first | omega | assumption | (simp only [hz3])), (by omega)⟩)) | exact Or.inr (Or.inr (Or.inl (⟨(by first | assumption | omega | trivial), (by first | assumption | omega | trivial), (by first | omega | assumption | (simp only [hz3])), (by omega)⟩))) | exact Or.inr (Or.inr (Or.inr (Or.inl (⟨(by first | assumption | omega | trivial), (by first | assumption | omega | trivial), (by first | omega | assumption | (simp only [hz3])), (by simp (decide := true) only [hw7, hw5, recW, up_up, up_s, gA_sF, gN_sF, gA_sA, gN_sA, gA_sS, gN_sS, if_true, if_false, true_and, and_true, false_and, and_false, hu1, hu31, hu91, hu14, hu94, hu19, hu49, hu39, hu42, hu32, hu20, hu21, hu31b, hu01, hu24, hu34, hz3])⟩)))) | exact Or.inr (Or.inr (Or.inr (Or.inr (⟨(by first | assumption | omega | trivial), (by first | assumption | omega | trivial), (by first | omega | assumption | (simp only [hz3])), (by simp (decide := true) only [hw7, hw5, recW, up_up, up_s, gA_sF, gN_sF, gA_sA, gN_sA, gA_sS, gN_sS, if_true, if_false, true_and, and_true, false_and, and_false, hu1, hu31, hu91, hu14, hu94, hu19, hu49, hu39, hu42, hu32, hu20, hu21, hu31b, hu01, hu24, hu34, hz3])⟩))))) dX5_set_76
        · refine lv_aload_n hx hb dX5_set_56 rfl (lv_at hl 1 rfl) ?_
          refine r_gR C0 hW (show 0 < 11 ∧ 0 < bs 0 from ⟨by decide, by decide⟩) rfl rfl hiX5 (k := 0) (by decide) kf_X5_12 rfl rfl rfl dX5_set_57 ?_
          refine lv_iload_n hx hb dX5_set_60 rfl (lv_at hl 3 rfl) ?_
          refine r_pI C0 hW (show 1 < 11 ∧ 0 < bs 1 from ⟨by decide, by decide⟩) (ceX_m ms_1 G 0 _ _) rfl hiX3 tyX3 tyX3_ok nmX3 (k := 8) (v := iI x) (by decide) kf_X5_69 rfl rfl rfl (tyX3_ok 8 (by decide)) rfl rfl (by simp) (ceX_m ms_1 G 0 _ _) dX5_set_61 (fun H1 locs1 hW => ?_)
          obtain ⟨w8, hw8⟩ : ∃ wq9 : gW, wq9 = up w5 1 (sS (w5 1) 0 8 (iI x)) := ⟨_, rfl⟩
          rw [← hw8] at hW
          refine lv_goto (tgt := 75) hx hb dX5_set_64 (by decide) ?_
          refine lv_iload_n hx hb dX5_set_75 rfl (lv_at hl 0 rfl) ?_
          exact r_iret C0 hW rz3 (by first | exact Or.inl (⟨(by first | assumption | omega | trivial), (by first | omega | assumption | (simp only [hz3])), (by omega)⟩) | exact Or.inr (Or.inl (⟨(by first | assumption | omega | trivial), (by first | assumption | omega | trivial), (by first | omega | assumption | (simp only [hz3])), (by omega)⟩)) | exact Or.inr (Or.inr (Or.inl (⟨(by first | assumption | omega | trivial), (by first | assumption | omega | trivial), (by first | omega | assumption | (simp only [hz3])), (by omega)⟩))) | exact Or.inr (Or.inr (Or.inr (Or.inl (⟨(by first | assumption | omega | trivial), (by first | assumption | omega | trivial), (by first | omega | assumption | (simp only [hz3])), (by simp (decide := true) only [hw8, hw5, recW, up_up, up_s, gA_sF, gN_sF, gA_sA, gN_sA, gA_sS, gN_sS, if_true, if_false, true_and, and_true, false_and, and_false, hu1, hu31, hu91, hu14, hu94, hu19, hu49, hu39, hu42, hu32, hu20, hu21, hu31b, hu01, hu24, hu34, hz3])⟩)))) | exact Or.inr (Or.inr (Or.inr (Or.inr (⟨(by first | assumption | omega | trivial), (by first | assumption | omega | trivial), (by first | omega | assumption | (simp only [hz3])), (by simp (decide := true) only [hw8, hw5, recW, up_up, up_s, gA_sF, gN_sF, gA_sA, gN_sA, gA_sS, gN_sS, if_true, if_false, true_and, and_true, false_and, and_false, hu1, hu31, hu91, hu14, hu94, hu19, hu49, hu39, hu42, hu32, hu20, hu21, hu31b, hu01, hu24, hu34, hz3])⟩))))) dX5_set_76
      · refine r_bipush hx hb dX5_set_38 (by decide) ?_
        exact r_iret C0 hW ⟨by omega, by omega⟩ (by first | exact Or.inl (⟨(by first | assumption | omega | trivial), (by first | omega | assumption | (simp only [hz3])), (rfl)⟩) | exact Or.inr (Or.inl (⟨(by first | assumption | omega | trivial), (by first | assumption | omega | trivial), (by first | omega | assumption | (simp only [hz3])), (rfl)⟩)) | exact Or.inr (Or.inr (Or.inl (⟨(by first | assumption | omega | trivial), (by first | assumption | omega | trivial), (by first | omega | assumption | (simp only [hz3])), (rfl)⟩))) | exact Or.inr (Or.inr (Or.inr (Or.inl (⟨(by first | assumption | omega | trivial), (by first | assumption | omega | trivial), (by first | omega | assumption | (simp only [hz3])), (by omega)⟩)))) | exact Or.inr (Or.inr (Or.inr (Or.inr (⟨(by first | assumption | omega | trivial), (by first | assumption | omega | trivial), (by first | omega | assumption | (simp only [hz3])), (by omega)⟩))))) dX5_set_40
    · refine lv_aload_n hx hb dX5_set_15 rfl (lv_at hl 0 rfl) ?_
      refine r_gR C0 hW (show 0 < 11 ∧ 0 < bs 0 from ⟨by decide, by decide⟩) rfl rfl hiX5 (k := 0) (by decide) kf_X5_12 rfl rfl rfl dX5_set_16 ?_
      refine r_gI C0 hW (show 1 < 11 ∧ 0 < bs 1 from ⟨by decide, by decide⟩) (ceX_m ms_1 G 0 _ _) rfl hiX3 (k := 8) (by decide) kf_X5_69 rfl rfl rfl dX5_set_19 (fun z9 (hz9 : z9 = gN (w 1) 0 8) rz9 => ?_)
      have rz9a := rz9.1
      have rz9b := rz9.2
      refine lv_goto (tgt := 32) hx hb dX5_set_22 (by decide) ?_
      refine lv_istore_n (lv' := [(3, .int (iI z9)), (0, .ref (ad G 0 0)), (1, .int (iI q)), (2, .int (iI x))]) hx hb dX5_set_32 rfl hl (by decide) rfl (fun ls hl => ?_)
      refine lv_iload_n hx hb dX5_set_33 rfl (lv_at hl 0 rfl) ?_
      refine lv_iload_n hx hb dX5_set_34 rfl (lv_at hl 3 rfl) ?_
      refine r_icmp_ne (tgt := 41) hx hb rz9 rx dX5_set_35 (by decide) (fun c10 => ?_) (fun c10 => ?_)
      · refine lv_aload_n hx hb dX5_set_41 rfl (lv_at hl 1 rfl) ?_
        refine r_gR C0 hW (show 0 < 11 ∧ 0 < bs 0 from ⟨by decide, by decide⟩) rfl rfl hiX5 (k := 3) (by decide) kf_X5_25 rfl rfl rfl dX5_set_42 ?_
        refine lv_aload_n hx hb dX5_set_45 rfl (lv_at hl 1 rfl) ?_
        refine r_gR C0 hW (show 0 < 11 ∧ 0 < bs 0 from ⟨by decide, by decide⟩) rfl rfl hiX5 (k := 0) (by decide) kf_X5_12 rfl rfl rfl dX5_set_46 ?_
        refine k_Vv (j := 4) (k0 := 0) C0 hW (c_X2_record l G w (hp4) hh hwf (by first | omega | (simp (decide := true) only [id, up_s, gA_sF, gN_sF, gA_sA, gN_sA, gA_sS, gN_sS, if_true, if_false, true_and, and_true, false_and, and_false, hu1, hu31, hu91, hu14, hu94, hu19, hu49, hu39, hu42, hu32, hu20, hu21, hu31b, hu01, hu24, hu34]; omega))) km_X5_51 ki_X2_record ke_X2_record kn_X2 kc_X2_record rfl hdV_X2_record ⟨by decide, by decide⟩ (show 4 < 11 ∧ 0 < bs 4 from ⟨by decide, by decide⟩) rfl rfl rfl hl.1 rfl (Nat.le_of_ble_eq_true rfl) dX5_set_49 (fun w11 H1 locs1 hp11 hW => ?_)
        have hw11 : w11 = _ := hp11
        refine lv_iload_n hx hb dX5_set_52 rfl (lv_at hl 2 rfl) ?_
        refine r_if_ne (tgt := 67) hx hb rq dX5_set_53 (by decide) (fun c12 => ?_) (fun c12 => ?_)
        · refine lv_aload_n hx hb dX5_set_67 rfl (lv_at hl 1 rfl) ?_
          refine r_gR C0 hW (show 0 < 11 ∧ 0 < bs 0 from ⟨by decide, by decide⟩) rfl rfl hiX5 (k := 0) (by decide) kf_X5_12 rfl rfl rfl dX5_set_68 ?_
          refine lv_iload_n hx hb dX5_set_71 rfl (lv_at hl 3 rfl) ?_
          refine r_pI C0 hW (show 1 < 11 ∧ 0 < bs 1 from ⟨by decide, by decide⟩) (ceX_m ms_1 G 0 _ _) rfl hiX3 tyX3 tyX3_ok nmX3 (k := 9) (v := iI x) (by decide) kf_X5_73 rfl rfl rfl (tyX3_ok 9 (by decide)) rfl rfl (by simp) (ceX_m ms_1 G 0 _ _) dX5_set_72 (fun H1 locs1 hW => ?_)
          obtain ⟨w13, hw13⟩ : ∃ wq9 : gW, wq9 = up w11 1 (sS (w11 1) 0 9 (iI x)) := ⟨_, rfl⟩
          rw [← hw13] at hW
          refine lv_iload_n hx hb dX5_set_75 rfl (lv_at hl 0 rfl) ?_
          exact r_iret C0 hW rz9 (by first | exact Or.inl (⟨(by first | assumption | omega | trivial), (by first | omega | assumption | (simp only [hz9])), (by omega)⟩) | exact Or.inr (Or.inl (⟨(by first | assumption | omega | trivial), (by first | assumption | omega | trivial), (by first | omega | assumption | (simp only [hz9])), (by omega)⟩)) | exact Or.inr (Or.inr (Or.inl (⟨(by first | assumption | omega | trivial), (by first | assumption | omega | trivial), (by first | omega | assumption | (simp only [hz9])), (by omega)⟩))) | exact Or.inr (Or.inr (Or.inr (Or.inl (⟨(by first | assumption | omega | trivial), (by first | assumption | omega | trivial), (by first | omega | assumption | (simp only [hz9])), (by simp (decide := true) only [hw13, hw11, recW, up_up, up_s, gA_sF, gN_sF, gA_sA, gN_sA, gA_sS, gN_sS, if_true, if_false, true_and, and_true, false_and, and_false, hu1, hu31, hu91, hu14, hu94, hu19, hu49, hu39, hu42, hu32, hu20, hu21, hu31b, hu01, hu24, hu34, hz9])⟩)))) | exact Or.inr (Or.inr (Or.inr (Or.inr (⟨(by first | assumption | omega | trivial), (by first | assumption | omega | trivial), (by first | omega | assumption | (simp only [hz9])), (by simp (decide := true) only [hw13, hw11, recW, up_up, up_s, gA_sF, gN_sF, gA_sA, gN_sA, gA_sS, gN_sS, if_true, if_false, true_and, and_true, false_and, and_false, hu1, hu31, hu91, hu14, hu94, hu19, hu49, hu39, hu42, hu32, hu20, hu21, hu31b, hu01, hu24, hu34, hz9])⟩))))) dX5_set_76
        · refine lv_aload_n hx hb dX5_set_56 rfl (lv_at hl 1 rfl) ?_
          refine r_gR C0 hW (show 0 < 11 ∧ 0 < bs 0 from ⟨by decide, by decide⟩) rfl rfl hiX5 (k := 0) (by decide) kf_X5_12 rfl rfl rfl dX5_set_57 ?_
          refine lv_iload_n hx hb dX5_set_60 rfl (lv_at hl 3 rfl) ?_
          refine r_pI C0 hW (show 1 < 11 ∧ 0 < bs 1 from ⟨by decide, by decide⟩) (ceX_m ms_1 G 0 _ _) rfl hiX3 tyX3 tyX3_ok nmX3 (k := 8) (v := iI x) (by decide) kf_X5_69 rfl rfl rfl (tyX3_ok 8 (by decide)) rfl rfl (by simp) (ceX_m ms_1 G 0 _ _) dX5_set_61 (fun H1 locs1 hW => ?_)
          obtain ⟨w14, hw14⟩ : ∃ wq9 : gW, wq9 = up w11 1 (sS (w11 1) 0 8 (iI x)) := ⟨_, rfl⟩
          rw [← hw14] at hW
          refine lv_goto (tgt := 75) hx hb dX5_set_64 (by decide) ?_
          refine lv_iload_n hx hb dX5_set_75 rfl (lv_at hl 0 rfl) ?_
          exact r_iret C0 hW rz9 (by first | exact Or.inl (⟨(by first | assumption | omega | trivial), (by first | omega | assumption | (simp only [hz9])), (by omega)⟩) | exact Or.inr (Or.inl (⟨(by first | assumption | omega | trivial), (by first | assumption | omega | trivial), (by first | omega | assumption | (simp only [hz9])), (by omega)⟩)) | exact Or.inr (Or.inr (Or.inl (⟨(by first | assumption | omega | trivial), (by first | assumption | omega | trivial), (by first | omega | assumption | (simp only [hz9])), (by omega)⟩))) | exact Or.inr (Or.inr (Or.inr (Or.inl (⟨(by first | assumption | omega | trivial), (by first | assumption | omega | trivial), (by first | omega | assumption | (simp only [hz9])), (by simp (decide := true) only [hw14, hw11, recW, up_up, up_s, gA_sF, gN_sF, gA_sA, gN_sA, gA_sS, gN_sS, if_true, if_false, true_and, and_true, false_and, and_false, hu1, hu31, hu91, hu14, hu94, hu19, hu49, hu39, hu42, hu32, hu20, hu21, hu31b, hu01, hu24, hu34, hz9])⟩)))) | exact Or.inr (Or.inr (Or.inr (Or.inr (⟨(by first | assumption | omega | trivial), (by first | assumption | omega | trivial), (by first | omega | assumption | (simp only [hz9])), (by simp (decide := true) only [hw14, hw11, recW, up_up, up_s, gA_sF, gN_sF, gA_sA, gN_sA, gA_sS, gN_sS, if_true, if_false, true_and, and_true, false_and, and_false, hu1, hu31, hu91, hu14, hu94, hu19, hu49, hu39, hu42, hu32, hu20, hu21, hu31b, hu01, hu24, hu34, hz9])⟩))))) dX5_set_76
      · refine r_bipush hx hb dX5_set_38 (by decide) ?_
        exact r_iret C0 hW ⟨by omega, by omega⟩ (by first | exact Or.inl (⟨(by first | assumption | omega | trivial), (by first | omega | assumption | (simp only [hz9])), (rfl)⟩) | exact Or.inr (Or.inl (⟨(by first | assumption | omega | trivial), (by first | assumption | omega | trivial), (by first | omega | assumption | (simp only [hz9])), (rfl)⟩)) | exact Or.inr (Or.inr (Or.inl (⟨(by first | assumption | omega | trivial), (by first | assumption | omega | trivial), (by first | omega | assumption | (simp only [hz9])), (rfl)⟩))) | exact Or.inr (Or.inr (Or.inr (Or.inl (⟨(by first | assumption | omega | trivial), (by first | assumption | omega | trivial), (by first | omega | assumption | (simp only [hz9])), (by omega)⟩)))) | exact Or.inr (Or.inr (Or.inr (Or.inr (⟨(by first | assumption | omega | trivial), (by first | assumption | omega | trivial), (by first | omega | assumption | (simp only [hz9])), (by omega)⟩))))) dX5_set_40
  · subst e1
    refine r_if_ne (tgt := 11) hx hb ⟨by omega, by omega⟩ dX5_set_5 (by decide) (fun q => absurd q (by decide)) (fun _ => ?_)
    refine r_bipush hx hb dX5_set_8 (by decide) ?_
    exact r_iret C0 hW ⟨by omega, by omega⟩ (by first | exact Or.inl (⟨(by first | assumption | omega | trivial), (by first | omega | assumption | (simp only [id])), (rfl)⟩) | exact Or.inr (Or.inl (⟨(by first | assumption | omega | trivial), (by first | assumption | omega | trivial), (by first | omega | assumption | (simp only [id])), (rfl)⟩)) | exact Or.inr (Or.inr (Or.inl (⟨(by first | assumption | omega | trivial), (by first | assumption | omega | trivial), (by first | omega | assumption | (simp only [id])), (rfl)⟩))) | exact Or.inr (Or.inr (Or.inr (Or.inl (⟨(by first | assumption | omega | trivial), (by first | assumption | omega | trivial), (by first | omega | assumption | (simp only [id])), (by omega)⟩)))) | exact Or.inr (Or.inr (Or.inr (Or.inr (⟨(by first | assumption | omega | trivial), (by first | assumption | omega | trivial), (by first | omega | assumption | (simp only [id])), (by omega)⟩))))) dX5_set_10
