/-- X5_cut: its end -/
def po_X5_cut (w : gW) (b0 : Nat) (b1 : Nat) (b2 : Nat) (b3 : Nat) (co : Int) (pl : Int) : Int → gW → Prop := fun z w1 => ((¬ ((0 ≤ co ∧ co ≤ 9) ∧ (0 ≤ pl ∧ pl ≤ 19))) ∧ (z = -1) ∧ (w1 = w)) ∨ ((0 ≤ co ∧ co ≤ 9) ∧ (0 ≤ pl ∧ pl ≤ 19) ∧ (∃ q : Int, rsn (w 1) co pl q ∧ ¬ q = 0) ∧ (z = -4) ∧ (w1 = w)) ∨ ((0 ≤ co ∧ co ≤ 9) ∧ (0 ≤ pl ∧ pl ≤ 19) ∧ (rsn (w 1) co pl 0) ∧ (¬ gN (w 1) 7 6 < 120) ∧ (z = -4) ∧ (w1 = w)) ∨ ((0 ≤ co ∧ co ≤ 9) ∧ (0 ≤ pl ∧ pl ≤ 19) ∧ (rsn (w 1) co pl 0) ∧ (gN (w 1) 7 6 < 120) ∧ (z = gN (w 1) 7 6) ∧ (w1 = up (recW w b0 b1 b2 b3) 1 (takM (w 1) co pl)))
theorem hdV_X5_cut : yX5_cut.cls = RX5 ∧ yX5_cut.cls ≠ "java/lang/invoke/MethodHandle" ∧ yX5_cut.cls ≠ "java/lang/invoke/VarHandle" ∧ (parseMethodDescriptor yX5_cut.desc).map (fun d => d.parameters.length) = some 2 := by decide +kernel
set_option maxHeartbeats 4000000 in
set_option maxRecDepth 100000 in
theorem c_X5_cut (l : Launch) (G : gG) (w : gW) {b0 : Nat} {b1 : Nat} {b2 : Nat} {b3 : Nat} (hO : okW w b0 b1 b2 b3) (co : Int) (pl : Int) (rco : inR co) (rpl : inR pl) : mI l G yX5_cut (wU yX5_cut cX5_cut 3 (some .int)) (rmL 5 103) [.ref (ad G 0 0), .int (iI co), .int (iI pl)] w (po_X5_cut w b0 b1 b2 b3 co pl) := by
  refine mI_of (by decide +kernel) (Nat.le_of_ble_eq_true rfl) (fun p e s m args below meth c ls C0 hW hl => ?_)
  have hl : lv_has ls 3 [(0, .ref (ad G 0 0)), (1, .int (iI co)), (2, .int (iI pl))] := hl
  have hx := C0.hx
  have hb := C0.hb
  obtain ⟨hp4, hh, hwfs, hs4, hl9⟩ := id hO
  obtain ⟨q0, q1, q2, q3, n1, n2, n3, n4, n5, n6⟩ := id hp4
  have hwf := hwfs 1 ms_1
  obtain ⟨⟨hs1, hs2⟩, ⟨hd1, hd2, hd3⟩, hwet, -, -, -, ⟨hr1, hr2⟩, ⟨hc1, hc2⟩, hds⟩ := id hwf
  have hu1 : ∀ (w : gW) (M : gM), up w 4 M 1 = w 1 := fun w M => up_n w M (by decide)
  have hu31 : ∀ (w : gW) (M : gM), up w b3 M 1 = w 1 := fun w M => up_n w M (by omega)
  have hu91 : ∀ (w : gW) (M : gM), up w 9 M 1 = w 1 := fun w M => up_n w M (by decide)
  have hu14 : ∀ (w : gW) (M : gM), up w 1 M 4 = w 4 := fun w M => up_n w M (by decide)
  have hu94 : ∀ (w : gW) (M : gM), up w 9 M 4 = w 4 := fun w M => up_n w M (by decide)
  have hu19 : ∀ (w : gW) (M : gM), up w 1 M 9 = w 9 := fun w M => up_n w M (by decide)
  have hu49 : ∀ (w : gW) (M : gM), up w 4 M 9 = w 9 := fun w M => up_n w M (by decide)
  have hu39 : ∀ (w : gW) (M : gM), up w b3 M 9 = w 9 := fun w M => up_n w M (by omega)
  have hu42 : ∀ (w : gW) (M : gM), up w 4 M 2 = w 2 := fun w M => up_n w M (by decide)
  have hu32 : ∀ (w : gW) (M : gM), up w b3 M 2 = w 2 := fun w M => up_n w M (by omega)
  have hu20 : ∀ (w : gW) (M : gM), up w 2 M 0 = w 0 := fun w M => up_n w M (by decide)
  have hu21 : ∀ (w : gW) (M : gM), up w 2 M 1 = w 1 := fun w M => up_n w M (by decide)
  have hu31b : ∀ (w : gW) (M : gM), up w 3 M 1 = w 1 := fun w M => up_n w M (by decide)
  have hu01 : ∀ (w : gW) (M : gM), up w 0 M 1 = w 1 := fun w M => up_n w M (by decide)
  have hu24 : ∀ (w : gW) (M : gM), up w 2 M 4 = w 4 := fun w M => up_n w M (by decide)
  have hu34 : ∀ (w : gW) (M : gM), up w 3 M 4 = w 4 := fun w M => up_n w M (by decide)
  refine lv_iload_n hx hb dX5_cut_0 rfl (lv_at hl 1 rfl) ?_
  refine k_Si (host := "") C0 hW (As := [.int (iI co)]) (c_X5_isCommoner l G w co rco) km_X5_44 ks_X5_isCommoner kn_X5 kc_X5_isCommoner rfl hdS_X5_isCommoner ⟨by decide, by decide⟩ rfl hl.1 rfl (Nat.le_of_ble_eq_true rfl) dX5_cut_1 (fun z1 w1 H1 locs1 rz1 hp1 hW => ?_)
  obtain ⟨hp1, hq1⟩ := hp1
  subst hq1
  have rz1a := rz1.1
  have rz1b := rz1.2
  rcases hp1 with ⟨e1, hp1⟩ | ⟨e1, hp1⟩
  · subst e1
    refine r_if_eq (tgt := 14) hx hb ⟨by omega, by omega⟩ dX5_cut_4 (by decide) (fun q => absurd q (by decide)) (fun _ => ?_)
    refine lv_iload_n hx hb dX5_cut_7 rfl (lv_at hl 2 rfl) ?_
    refine k_Si (host := "") C0 hW (As := [.int (iI pl)]) (c_X5_isPlot l G w pl rpl) km_X5_40 ks_X5_isPlot kn_X5 kc_X5_isPlot rfl hdS_X5_isPlot ⟨by decide, by decide⟩ rfl hl.1 rfl (Nat.le_of_ble_eq_true rfl) dX5_cut_8 (fun z2 w2 H1 locs1 rz2 hp2 hW => ?_)
    obtain ⟨hp2, hq2⟩ := hp2
    subst hq2
    have rz2a := rz2.1
    have rz2b := rz2.2
    rcases hp2 with ⟨e2, hp2⟩ | ⟨e2, hp2⟩
    · subst e2
      refine r_if_ne (tgt := 16) hx hb ⟨by omega, by omega⟩ dX5_cut_11 (by decide) (fun _ => ?_) (fun q => absurd q (by decide))
      refine lv_aload_n hx hb dX5_cut_16 rfl (lv_at hl 0 rfl) ?_
      refine r_gR C0 hW (show 0 < 11 ∧ 0 < bs 0 from ⟨by decide, by decide⟩) rfl rfl hiX5 (k := 0) (by decide) kf_X5_12 rfl rfl rfl dX5_cut_17 ?_
      refine lv_iload_n hx hb dX5_cut_20 rfl (lv_at hl 1 rfl) ?_
      refine lv_iload_n hx hb dX5_cut_21 rfl (lv_at hl 2 rfl) ?_
      refine k_Vi (j := 1) (k0 := 0) C0 hW (c_X3_reasonAgainst l G w ms_1 hwf co pl rco rpl) km_X5_76 ki_X3_reasonAgainst ke_X3_reasonAgainst kn_X3 kc_X3_reasonAgainst rfl hdV_X3_reasonAgainst ⟨by decide, by decide⟩ (show 1 < 11 ∧ 0 < bs 1 from ⟨by decide, by decide⟩) (ceX_m ms_1 G 0 _ _) rfl rfl hl.1 rfl (Nat.le_of_ble_eq_true rfl) dX5_cut_22 (fun z3 w3 H1 locs1 rz3 hp3 hW => ?_)
      obtain ⟨hp3, hq3⟩ := hp3
      subst hq3
      have rz3a := rz3.1
      have rz3b := rz3.2
      refine r_if_ne (tgt := 41) hx hb rz3 dX5_cut_25 (by decide) (fun c4 => ?_) (fun c4 => ?_)
      · refine r_bipush hx hb dX5_cut_41 (by decide) ?_
        exact r_iret C0 hW ⟨by omega, by omega⟩ (by first | exact Or.inl (⟨(by first | assumption | omega | trivial), (by first | omega | assumption | (simp only [id])), (rfl)⟩) | exact Or.inr (Or.inl (⟨(by first | assumption | omega | trivial), (by first | assumption | omega | trivial), (⟨_, hp3, by omega⟩), (by first | omega | assumption | (simp only [id])), (rfl)⟩)) | exact Or.inr (Or.inr (Or.inl (⟨(by first | assumption | omega | trivial), (by first | assumption | omega | trivial), (by have q := hp3; rw [show z3 = 0 from by omega] at q; exact q), (by first | assumption | omega | trivial), (by first | omega | assumption | (simp only [id])), (rfl)⟩)))) dX5_cut_43
      · refine lv_aload_n hx hb dX5_cut_28 rfl (lv_at hl 0 rfl) ?_
        refine r_gR C0 hW (show 0 < 11 ∧ 0 < bs 0 from ⟨by decide, by decide⟩) rfl rfl hiX5 (k := 0) (by decide) kf_X5_12 rfl rfl rfl dX5_cut_29 ?_
        refine r_gR C0 hW (show 1 < 11 ∧ 0 < bs 1 from ⟨by decide, by decide⟩) (ceX_m ms_1 G 0 _ _) rfl hiX3 (k := 6) (by decide) kf_X5_80 rfl rfl rfl dX5_cut_32 ?_
        refine k_Vi (j := 1) (k0 := 7) C0 hW (c_X4_hasNumberLeft l G w ms_1 hwf) km_X5_84 ki_X4_hasNumberLeft ke_X4_hasNumberLeft kn_X4 kc_X4_hasNumberLeft rfl hdV_X4_hasNumberLeft ⟨by decide, by decide⟩ (show 1 < 11 ∧ 7 < bs 1 from ⟨by decide, by decide⟩) (ceX_m ms_1 G 7 _ _) rfl rfl hl.1 rfl (Nat.le_of_ble_eq_true rfl) dX5_cut_35 (fun z5 w5 H1 locs1 rz5 hp5 hW => ?_)
        obtain ⟨hp5, hq5⟩ := hp5
        subst hq5
        have rz5a := rz5.1
        have rz5b := rz5.2
        rcases hp5 with ⟨e5, hp5⟩ | ⟨e5, hp5⟩
        · subst e5
          refine r_if_ne (tgt := 44) hx hb ⟨by omega, by omega⟩ dX5_cut_38 (by decide) (fun _ => ?_) (fun q => absurd q (by decide))
          refine lv_aload_n hx hb dX5_cut_44 rfl (lv_at hl 0 rfl) ?_
          refine r_gR C0 hW (show 0 < 11 ∧ 0 < bs 0 from ⟨by decide, by decide⟩) rfl rfl hiX5 (k := 3) (by decide) kf_X5_25 rfl rfl rfl dX5_cut_45 ?_
          refine lv_aload_n hx hb dX5_cut_48 rfl (lv_at hl 0 rfl) ?_
          refine r_gR C0 hW (show 0 < 11 ∧ 0 < bs 0 from ⟨by decide, by decide⟩) rfl rfl hiX5 (k := 0) (by decide) kf_X5_12 rfl rfl rfl dX5_cut_49 ?_
          refine k_Vv (j := 4) (k0 := 0) C0 hW (c_X2_record l G w (hp4) hh hwf (by first | omega | (simp (decide := true) only [id, up_s, gA_sF, gN_sF, gA_sA, gN_sA, gA_sS, gN_sS, if_true, if_false, true_and, and_true, false_and, and_false, hu1, hu31, hu91, hu14, hu94, hu19, hu49, hu39, hu42, hu32, hu20, hu21, hu31b, hu01, hu24, hu34]; omega))) km_X5_51 ki_X2_record ke_X2_record kn_X2 kc_X2_record rfl hdV_X2_record ⟨by decide, by decide⟩ (show 4 < 11 ∧ 0 < bs 4 from ⟨by decide, by decide⟩) rfl rfl rfl hl.1 rfl (Nat.le_of_ble_eq_true rfl) dX5_cut_52 (fun w6 H1 locs1 hp6 hW => ?_)
          have hw6 : w6 = _ := hp6
          refine lv_aload_n hx hb dX5_cut_55 rfl (lv_at hl 0 rfl) ?_
          refine r_gR C0 hW (show 0 < 11 ∧ 0 < bs 0 from ⟨by decide, by decide⟩) rfl rfl hiX5 (k := 0) (by decide) kf_X5_12 rfl rfl rfl dX5_cut_56 ?_
          refine lv_iload_n hx hb dX5_cut_59 rfl (lv_at hl 1 rfl) ?_
          refine lv_iload_n hx hb dX5_cut_60 rfl (lv_at hl 2 rfl) ?_
          refine k_Vi (j := 1) (k0 := 0) C0 hW (c_X3_takeLayer l G w6 ms_1 (by simp only [hw6, up_up, up_s, hu1, hu31, hu91, hu14, hu94, hu19, hu49, hu39, hu42, hu32, hu20, hu21, hu31b, hu01, hu24, hu34]; exact hwf) co pl rco rpl (by omega) (by omega) (by first | omega | (simp (decide := true) only [hw6, up_s, gA_sF, gN_sF, gA_sA, gN_sA, gA_sS, gN_sS, if_true, if_false, true_and, and_true, false_and, and_false, hu1, hu31, hu91, hu14, hu94, hu19, hu49, hu39, hu42, hu32, hu20, hu21, hu31b, hu01, hu24, hu34, layM]; omega))) km_X5_90 ki_X3_takeLayer ke_X3_takeLayer kn_X3 kc_X3_takeLayer rfl hdV_X3_takeLayer ⟨by decide, by decide⟩ (show 1 < 11 ∧ 0 < bs 1 from ⟨by decide, by decide⟩) (ceX_m ms_1 G 0 _ _) rfl rfl hl.1 rfl (Nat.le_of_ble_eq_true rfl) dX5_cut_61 (fun z7 w7 H1 locs1 rz7 hp7 hW => ?_)
          obtain ⟨hp7, hw7⟩ := hp7
          have rz7a := rz7.1
          have rz7b := rz7.2
          exact r_iret C0 hW rz7 (by first | exact Or.inl (⟨(by first | assumption | omega | trivial), (by first | omega | assumption | (simp only [id])), (by omega)⟩) | exact Or.inr (Or.inl (⟨(by first | assumption | omega | trivial), (by first | assumption | omega | trivial), (⟨_, hp3, by omega⟩), (by first | omega | assumption | (simp only [id])), (by omega)⟩)) | exact Or.inr (Or.inr (Or.inl (⟨(by first | assumption | omega | trivial), (by first | assumption | omega | trivial), (by have q := hp3; rw [show z3 = 0 from by omega] at q; exact q), (by first | assumption | omega | trivial), (by first | omega | assumption | (simp only [id])), (by omega)⟩))) | exact Or.inr (Or.inr (Or.inr (⟨(by first | assumption | omega | trivial), (by first | assumption | omega | trivial), (by have q := hp3; rw [show z3 = 0 from by omega] at q; exact q), (by first | assumption | omega | trivial), (by have q := hp7; first | omega | (simp (decide := true) only [hw7, hw6, up_s, gA_sF, gN_sF, gA_sA, gN_sA, gA_sS, gN_sS, if_true, if_false, true_and, and_true, false_and, and_false, hu1, hu31, hu91, hu14, hu94, hu19, hu49, hu39, hu42, hu32, hu20, hu21, hu31b, hu01, hu24, hu34] at q; omega)), (by simp (decide := true) only [hw7, hw6, recW, up_up, up_s, gA_sF, gN_sF, gA_sA, gN_sA, gA_sS, gN_sS, if_true, if_false, true_and, and_true, false_and, and_false, hu1, hu31, hu91, hu14, hu94, hu19, hu49, hu39, hu42, hu32, hu20, hu21, hu31b, hu01, hu24, hu34, id])⟩)))) dX5_cut_64
        · subst e5
          refine r_if_ne (tgt := 44) hx hb ⟨by omega, by omega⟩ dX5_cut_38 (by decide) (fun q => absurd q (by decide)) (fun _ => ?_)
          refine r_bipush hx hb dX5_cut_41 (by decide) ?_
          exact r_iret C0 hW ⟨by omega, by omega⟩ (by first | exact Or.inl (⟨(by first | assumption | omega | trivial), (by first | omega | assumption | (simp only [id])), (rfl)⟩) | exact Or.inr (Or.inl (⟨(by first | assumption | omega | trivial), (by first | assumption | omega | trivial), (⟨_, hp3, by omega⟩), (by first | omega | assumption | (simp only [id])), (rfl)⟩)) | exact Or.inr (Or.inr (Or.inl (⟨(by first | assumption | omega | trivial), (by first | assumption | omega | trivial), (by have q := hp3; rw [show z3 = 0 from by omega] at q; exact q), (by first | assumption | omega | trivial), (by first | omega | assumption | (simp only [id])), (rfl)⟩)))) dX5_cut_43
    · subst e2
      refine r_if_ne (tgt := 16) hx hb ⟨by omega, by omega⟩ dX5_cut_11 (by decide) (fun q => absurd q (by decide)) (fun _ => ?_)
      refine r_iconst hx hb dX5_cut_14 ?_
      exact r_iret C0 hW ⟨by omega, by omega⟩ (by first | exact Or.inl (⟨(by first | assumption | omega | trivial), (by first | omega | assumption | (simp only [id])), (rfl)⟩)) dX5_cut_15
  · subst e1
    refine r_if_eq (tgt := 14) hx hb ⟨by omega, by omega⟩ dX5_cut_4 (by decide) (fun _ => ?_) (fun q => absurd q (by decide))
    refine r_iconst hx hb dX5_cut_14 ?_
    exact r_iret C0 hW ⟨by omega, by omega⟩ (by first | exact Or.inl (⟨(by first | assumption | omega | trivial), (by first | omega | assumption | (simp only [id])), (rfl)⟩)) dX5_cut_15

/-- X5_turn: its end -/
def po_X5_turn (w : gW) (b0 : Nat) (b1 : Nat) (b2 : Nat) (b3 : Nat) (r : Int) : Int → gW → Prop := fun z w1 => ((¬ lyi (w 1) r) ∧ (z = -1) ∧ (w1 = w)) ∨ ((lyi (w 1) r) ∧ (¬ gA (w 1) 12 r = 0) ∧ (z = -4) ∧ (w1 = w)) ∨ ((lyi (w 1) r) ∧ (gA (w 1) 12 r = 0) ∧ (¬ gA (w 1) 11 r = 0) ∧ (z = -5) ∧ (w1 = w)) ∨ ((lyi (w 1) r) ∧ (gA (w 1) 12 r = 0) ∧ (gA (w 1) 11 r = 0) ∧ (z = gA (w 1) 10 r) ∧ (w1 = up (recW w b0 b1 b2 b3) 1 (sA (w 1) 11 r (iI 1))))
theorem hdV_X5_turn : yX5_turn.cls = RX5 ∧ yX5_turn.cls ≠ "java/lang/invoke/MethodHandle" ∧ yX5_turn.cls ≠ "java/lang/invoke/VarHandle" ∧ (parseMethodDescriptor yX5_turn.desc).map (fun d => d.parameters.length) = some 1 := by decide +kernel
set_option maxHeartbeats 4000000 in
set_option maxRecDepth 100000 in
theorem c_X5_turn (l : Launch) (G : gG) (w : gW) {b0 : Nat} {b1 : Nat} {b2 : Nat} {b3 : Nat} (hO : okW w b0 b1 b2 b3) (r : Int) (rr : inR r) : mI l G yX5_turn (wU yX5_turn cX5_turn 2 (some .int)) (rmL 5 103) [.ref (ad G 0 0), .int (iI r)] w (po_X5_turn w b0 b1 b2 b3 r) := by
  refine mI_of (by decide +kernel) (Nat.le_of_ble_eq_true rfl) (fun p e s m args below meth c ls C0 hW hl => ?_)
  have hl : lv_has ls 2 [(0, .ref (ad G 0 0)), (1, .int (iI r))] := hl
  have hx := C0.hx
  have hb := C0.hb
  obtain ⟨hp4, hh, hwfs, hs4, hl9⟩ := id hO
  obtain ⟨q0, q1, q2, q3, n1, n2, n3, n4, n5, n6⟩ := id hp4
  have hwf := hwfs 1 ms_1
  obtain ⟨⟨hs1, hs2⟩, ⟨hd1, hd2, hd3⟩, hwet, -, -, -, ⟨hr1, hr2⟩, ⟨hc1, hc2⟩, hds⟩ := id hwf
  have hu1 : ∀ (w : gW) (M : gM), up w 4 M 1 = w 1 := fun w M => up_n w M (by decide)
  have hu31 : ∀ (w : gW) (M : gM), up w b3 M 1 = w 1 := fun w M => up_n w M (by omega)
  have hu91 : ∀ (w : gW) (M : gM), up w 9 M 1 = w 1 := fun w M => up_n w M (by decide)
  have hu14 : ∀ (w : gW) (M : gM), up w 1 M 4 = w 4 := fun w M => up_n w M (by decide)
  have hu94 : ∀ (w : gW) (M : gM), up w 9 M 4 = w 4 := fun w M => up_n w M (by decide)
  have hu19 : ∀ (w : gW) (M : gM), up w 1 M 9 = w 9 := fun w M => up_n w M (by decide)
  have hu49 : ∀ (w : gW) (M : gM), up w 4 M 9 = w 9 := fun w M => up_n w M (by decide)
  have hu39 : ∀ (w : gW) (M : gM), up w b3 M 9 = w 9 := fun w M => up_n w M (by omega)
  have hu42 : ∀ (w : gW) (M : gM), up w 4 M 2 = w 2 := fun w M => up_n w M (by decide)
  have hu32 : ∀ (w : gW) (M : gM), up w b3 M 2 = w 2 := fun w M => up_n w M (by omega)
  have hu20 : ∀ (w : gW) (M : gM), up w 2 M 0 = w 0 := fun w M => up_n w M (by decide)
  have hu21 : ∀ (w : gW) (M : gM), up w 2 M 1 = w 1 := fun w M => up_n w M (by decide)
  have hu31b : ∀ (w : gW) (M : gM), up w 3 M 1 = w 1 := fun w M => up_n w M (by decide)
  have hu01 : ∀ (w : gW) (M : gM), up w 0 M 1 = w 1 := fun w M => up_n w M (by decide)
  have hu24 : ∀ (w : gW) (M : gM), up w 2 M 4 = w 4 := fun w M => up_n w M (by decide)
  have hu34 : ∀ (w : gW) (M : gM), up w 3 M 4 = w 4 := fun w M => up_n w M (by decide)
  refine lv_aload_n hx hb dX5_turn_0 rfl (lv_at hl 0 rfl) ?_
  refine r_gR C0 hW (show 0 < 11 ∧ 0 < bs 0 from ⟨by decide, by decide⟩) rfl rfl hiX5 (k := 0) (by decide) kf_X5_12 rfl rfl rfl dX5_turn_1 ?_
  refine r_gR C0 hW (show 1 < 11 ∧ 0 < bs 1 from ⟨by decide, by decide⟩) (ceX_m ms_1 G 0 _ _) rfl hiX3 (k := 6) (by decide) kf_X5_80 rfl rfl rfl dX5_turn_4 ?_
  refine lv_iload_n hx hb dX5_turn_7 rfl (lv_at hl 1 rfl) ?_
  refine k_Vi (j := 1) (k0 := 7) C0 hW (c_X4_isLying l G w ms_1 hwf r rr) km_X5_93 ki_X4_isLying ke_X4_isLying kn_X4 kc_X4_isLying rfl hdV_X4_isLying ⟨by decide, by decide⟩ (show 1 < 11 ∧ 7 < bs 1 from ⟨by decide, by decide⟩) (ceX_m ms_1 G 7 _ _) rfl rfl hl.1 rfl (Nat.le_of_ble_eq_true rfl) dX5_turn_8 (fun z1 w1 H1 locs1 rz1 hp1 hW => ?_)
  obtain ⟨hp1, hq1⟩ := hp1
  subst hq1
  have rz1a := rz1.1
  have rz1b := rz1.2
  rcases hp1 with ⟨e1, hp1⟩ | ⟨e1, hp1⟩
  · subst e1
    obtain ⟨hp11, hp12, hp13⟩ := id hp1
    refine r_if_ne (tgt := 16) hx hb ⟨by omega, by omega⟩ dX5_turn_11 (by decide) (fun _ => ?_) (fun q => absurd q (by decide))
    refine lv_aload_n hx hb dX5_turn_16 rfl (lv_at hl 0 rfl) ?_
    refine r_gR C0 hW (show 0 < 11 ∧ 0 < bs 0 from ⟨by decide, by decide⟩) rfl rfl hiX5 (k := 0) (by decide) kf_X5_12 rfl rfl rfl dX5_turn_17 ?_
    refine r_gR C0 hW (show 1 < 11 ∧ 0 < bs 1 from ⟨by decide, by decide⟩) (ceX_m ms_1 G 0 _ _) rfl hiX3 (k := 6) (by decide) kf_X5_80 rfl rfl rfl dX5_turn_20 ?_
    refine r_gR C0 hW (show 1 < 11 ∧ 7 < bs 1 from ⟨by decide, by decide⟩) (ceX_m ms_1 G 7 _ _) rfl hiX4 (k := 4) (by decide) kf_X5_96 rfl rfl rfl dX5_turn_23 ?_
    refine lv_iload_n hx hb dX5_turn_26 rfl (lv_at hl 1 rfl) ?_
    refine r_zld C0 hW (show 1 < 11 ∧ 12 < bs 1 from ⟨by decide, by decide⟩) (ceX_m ms_1 G 12 _ _) (n := 120) (by omega) (by omega) (by omega) dX5_turn_27 (fun z2 (hz2 : z2 = gA (w 1) 12 r) rz2 => ?_)
    have rz2a := rz2.1
    have rz2b := rz2.2
    refine r_if_eq (tgt := 34) hx hb rz2 dX5_turn_28 (by decide) (fun c3 => ?_) (fun c3 => ?_)
    · refine lv_aload_n hx hb dX5_turn_34 rfl (lv_at hl 0 rfl) ?_
      refine r_gR C0 hW (show 0 < 11 ∧ 0 < bs 0 from ⟨by decide, by decide⟩) rfl rfl hiX5 (k := 0) (by decide) kf_X5_12 rfl rfl rfl dX5_turn_35 ?_
      refine r_gR C0 hW (show 1 < 11 ∧ 0 < bs 1 from ⟨by decide, by decide⟩) (ceX_m ms_1 G 0 _ _) rfl hiX3 (k := 6) (by decide) kf_X5_80 rfl rfl rfl dX5_turn_38 ?_
      refine r_gR C0 hW (show 1 < 11 ∧ 7 < bs 1 from ⟨by decide, by decide⟩) (ceX_m ms_1 G 7 _ _) rfl hiX4 (k := 3) (by decide) kf_X5_100 rfl rfl rfl dX5_turn_41 ?_
      refine lv_iload_n hx hb dX5_turn_44 rfl (lv_at hl 1 rfl) ?_
      refine r_zld C0 hW (show 1 < 11 ∧ 11 < bs 1 from ⟨by decide, by decide⟩) (ceX_m ms_1 G 11 _ _) (n := 120) (by omega) (by omega) (by omega) dX5_turn_45 (fun z4 (hz4 : z4 = gA (w 1) 11 r) rz4 => ?_)
      have rz4a := rz4.1
      have rz4b := rz4.2
      refine r_if_eq (tgt := 52) hx hb rz4 dX5_turn_46 (by decide) (fun c5 => ?_) (fun c5 => ?_)
      · refine lv_aload_n hx hb dX5_turn_52 rfl (lv_at hl 0 rfl) ?_
        refine r_gR C0 hW (show 0 < 11 ∧ 0 < bs 0 from ⟨by decide, by decide⟩) rfl rfl hiX5 (k := 3) (by decide) kf_X5_25 rfl rfl rfl dX5_turn_53 ?_
        refine lv_aload_n hx hb dX5_turn_56 rfl (lv_at hl 0 rfl) ?_
        refine r_gR C0 hW (show 0 < 11 ∧ 0 < bs 0 from ⟨by decide, by decide⟩) rfl rfl hiX5 (k := 0) (by decide) kf_X5_12 rfl rfl rfl dX5_turn_57 ?_
        refine k_Vv (j := 4) (k0 := 0) C0 hW (c_X2_record l G w (hp4) hh hwf (by first | omega | (simp (decide := true) only [id, up_s, gA_sF, gN_sF, gA_sA, gN_sA, gA_sS, gN_sS, if_true, if_false, true_and, and_true, false_and, and_false, hu1, hu31, hu91, hu14, hu94, hu19, hu49, hu39, hu42, hu32, hu20, hu21, hu31b, hu01, hu24, hu34]; omega))) km_X5_51 ki_X2_record ke_X2_record kn_X2 kc_X2_record rfl hdV_X2_record ⟨by decide, by decide⟩ (show 4 < 11 ∧ 0 < bs 4 from ⟨by decide, by decide⟩) rfl rfl rfl hl.1 rfl (Nat.le_of_ble_eq_true rfl) dX5_turn_60 (fun w6 H1 locs1 hp6 hW => ?_)
        have hw6 : w6 = _ := hp6
        refine lv_aload_n hx hb dX5_turn_63 rfl (lv_at hl 0 rfl) ?_
        refine r_gR C0 hW (show 0 < 11 ∧ 0 < bs 0 from ⟨by decide, by decide⟩) rfl rfl hiX5 (k := 0) (by decide) kf_X5_12 rfl rfl rfl dX5_turn_64 ?_
        refine r_gR C0 hW (show 1 < 11 ∧ 0 < bs 1 from ⟨by decide, by decide⟩) (ceX_m ms_1 G 0 _ _) rfl hiX3 (k := 6) (by decide) kf_X5_80 rfl rfl rfl dX5_turn_67 ?_
        refine r_gR C0 hW (show 1 < 11 ∧ 7 < bs 1 from ⟨by decide, by decide⟩) (ceX_m ms_1 G 7 _ _) rfl hiX4 (k := 3) (by decide) kf_X5_100 rfl rfl rfl dX5_turn_70 ?_
        refine lv_iload_n hx hb dX5_turn_73 rfl (lv_at hl 1 rfl) ?_
        refine r_iconst hx hb dX5_turn_74 ?_
        refine r_zst C0 hW (show 1 < 11 ∧ 11 < bs 1 from ⟨by decide, by decide⟩) (fun A => (ceX_m ms_1 G 11 _ _)) (n := 120) (v := iI 1) (iI_narz (by first | exact Or.inl rfl | exact Or.inr rfl | omega)) (by omega) (by omega) (by decide) dX5_turn_75 (fun H1 locs1 hW => ?_)
        obtain ⟨w7, hw7⟩ : ∃ wq9 : gW, wq9 = up w6 1 (sA (w6 1) 11 r (iI 1)) := ⟨_, rfl⟩
        rw [← hw7] at hW
        refine lv_aload_n hx hb dX5_turn_76 rfl (lv_at hl 0 rfl) ?_
        refine r_gR C0 hW (show 0 < 11 ∧ 0 < bs 0 from ⟨by decide, by decide⟩) rfl rfl hiX5 (k := 0) (by decide) kf_X5_12 rfl rfl rfl dX5_turn_77 ?_
        refine r_gR C0 hW (show 1 < 11 ∧ 0 < bs 1 from ⟨by decide, by decide⟩) (ceX_m ms_1 G 0 _ _) rfl hiX3 (k := 6) (by decide) kf_X5_80 rfl rfl rfl dX5_turn_80 ?_
        refine r_gR C0 hW (show 1 < 11 ∧ 7 < bs 1 from ⟨by decide, by decide⟩) (ceX_m ms_1 G 7 _ _) rfl hiX4 (k := 2) (by decide) kf_X5_103 rfl rfl rfl dX5_turn_83 ?_
        refine lv_iload_n hx hb dX5_turn_86 rfl (lv_at hl 1 rfl) ?_
        refine r_ild C0 hW (show 1 < 11 ∧ 10 < bs 1 from ⟨by decide, by decide⟩) (ceX_m ms_1 G 10 _ _) (n := 120) (by omega) (by omega) (by omega) dX5_turn_87 (fun z8 (hz8 : z8 = gA (w7 1) 10 r) rz8 => ?_)
        have rz8a := rz8.1
        have rz8b := rz8.2
        try simp (decide := true) only [hw7, hw6, up_s, gA_sF, gN_sF, gA_sA, gN_sA, gA_sS, gN_sS, if_true, if_false, true_and, and_true, false_and, and_false, hu1, hu31, hu91, hu14, hu94, hu19, hu49, hu39, hu42, hu32, hu20, hu21, hu31b, hu01, hu24, hu34] at hz8
        exact r_iret C0 hW rz8 (by first | exact Or.inl (⟨(by first | assumption | omega | trivial), (by first | omega | assumption | (simp only [hz2, hz4, hz8])), (by omega)⟩) | exact Or.inr (Or.inl (⟨(by first | assumption | omega | trivial), (by first | assumption | omega | trivial), (by first | omega | assumption | (simp only [hz2, hz4, hz8])), (by omega)⟩)) | exact Or.inr (Or.inr (Or.inl (⟨(by first | assumption | omega | trivial), (by first | assumption | omega | trivial), (by first | assumption | omega | trivial), (by first | omega | assumption | (simp only [hz2, hz4, hz8])), (by omega)⟩))) | exact Or.inr (Or.inr (Or.inr (⟨(by first | assumption | omega | trivial), (by first | assumption | omega | trivial), (by first | assumption | omega | trivial), (by first | omega | assumption | (simp only [hz2, hz4, hz8])), (by simp (decide := true) only [hw7, hw6, recW, up_up, up_s, gA_sF, gN_sF, gA_sA, gN_sA, gA_sS, gN_sS, if_true, if_false, true_and, and_true, false_and, and_false, hu1, hu31, hu91, hu14, hu94, hu19, hu49, hu39, hu42, hu32, hu20, hu21, hu31b, hu01, hu24, hu34, hz2, hz4, hz8])⟩)))) dX5_turn_88
      · refine r_bipush hx hb dX5_turn_49 (by decide) ?_
        exact r_iret C0 hW ⟨by omega, by omega⟩ (by first | exact Or.inl (⟨(by first | assumption | omega | trivial), (by first | omega | assumption | (simp only [hz2, hz4])), (rfl)⟩) | exact Or.inr (Or.inl (⟨(by first | assumption | omega | trivial), (by first | assumption | omega | trivial), (by first | omega | assumption | (simp only [hz2, hz4])), (rfl)⟩)) | exact Or.inr (Or.inr (Or.inl (⟨(by first | assumption | omega | trivial), (by first | assumption | omega | trivial), (by first | assumption | omega | trivial), (by first | omega | assumption | (simp only [hz2, hz4])), (rfl)⟩))) | exact Or.inr (Or.inr (Or.inr (⟨(by first | assumption | omega | trivial), (by first | assumption | omega | trivial), (by first | assumption | omega | trivial), (by first | omega | assumption | (simp only [hz2, hz4])), (by omega)⟩)))) dX5_turn_51
    · refine r_bipush hx hb dX5_turn_31 (by decide) ?_
      exact r_iret C0 hW ⟨by omega, by omega⟩ (by first | exact Or.inl (⟨(by first | assumption | omega | trivial), (by first | omega | assumption | (simp only [hz2])), (rfl)⟩) | exact Or.inr (Or.inl (⟨(by first | assumption | omega | trivial), (by first | assumption | omega | trivial), (by first | omega | assumption | (simp only [hz2])), (rfl)⟩)) | exact Or.inr (Or.inr (Or.inl (⟨(by first | assumption | omega | trivial), (by first | assumption | omega | trivial), (by first | assumption | omega | trivial), (by first | omega | assumption | (simp only [hz2])), (rfl)⟩))) | exact Or.inr (Or.inr (Or.inr (⟨(by first | assumption | omega | trivial), (by first | assumption | omega | trivial), (by first | assumption | omega | trivial), (by first | omega | assumption | (simp only [hz2])), (by omega)⟩)))) dX5_turn_33
  · subst e1
    refine r_if_ne (tgt := 16) hx hb ⟨by omega, by omega⟩ dX5_turn_11 (by decide) (fun q => absurd q (by decide)) (fun _ => ?_)
    refine r_iconst hx hb dX5_turn_14 ?_
    exact r_iret C0 hW ⟨by omega, by omega⟩ (by first | exact Or.inl (⟨(by first | assumption | omega | trivial), (by first | omega | assumption | (simp only [id])), (rfl)⟩) | exact Or.inr (Or.inl (⟨(by first | assumption | omega | trivial), (by first | assumption | omega | trivial), (by first | omega | assumption | (simp only [id])), (rfl)⟩)) | exact Or.inr (Or.inr (Or.inl (⟨(by first | assumption | omega | trivial), (by first | assumption | omega | trivial), (by first | assumption | omega | trivial), (by first | omega | assumption | (simp only [id])), (rfl)⟩))) | exact Or.inr (Or.inr (Or.inr (⟨(by first | assumption | omega | trivial), (by first | assumption | omega | trivial), (by first | assumption | omega | trivial), (by first | omega | assumption | (simp only [id])), (by omega)⟩)))) dX5_turn_15

/-- X5_stack: its end -/
def po_X5_stack (w : gW) (b0 : Nat) (b1 : Nat) (b2 : Nat) (b3 : Nat) (r : Int) : Int → gW → Prop := fun z w1 => ((¬ lyi (w 1) r) ∧ (z = -1) ∧ (w1 = w)) ∨ ((lyi (w 1) r) ∧ (¬ pDr (w 1) r) ∧ (z = -4) ∧ (w1 = w)) ∨ ((lyi (w 1) r) ∧ (pDr (w 1) r) ∧ (¬ gA (w 1) 12 r = 0) ∧ (z = -5) ∧ (w1 = w)) ∨ ((lyi (w 1) r) ∧ (pDr (w 1) r) ∧ (gA (w 1) 12 r = 0) ∧ (z = cntI (pSO (sA (w 1) 12 r (iI 1)) (gA (w 1) 8 r)) (gN (w 1) 7 6)) ∧ (w1 = up (recW w b0 b1 b2 b3) 1 (sA (w 1) 12 r (iI 1))))
theorem hdV_X5_stack : yX5_stack.cls = RX5 ∧ yX5_stack.cls ≠ "java/lang/invoke/MethodHandle" ∧ yX5_stack.cls ≠ "java/lang/invoke/VarHandle" ∧ (parseMethodDescriptor yX5_stack.desc).map (fun d => d.parameters.length) = some 1 := by decide +kernel
set_option maxHeartbeats 4000000 in
set_option maxRecDepth 100000 in
theorem c_X5_stack (l : Launch) (G : gG) (w : gW) {b0 : Nat} {b1 : Nat} {b2 : Nat} {b3 : Nat} (hO : okW w b0 b1 b2 b3) (r : Int) (rr : inR r) : mI l G yX5_stack (wU yX5_stack cX5_stack 2 (some .int)) (rmL 5 103) [.ref (ad G 0 0), .int (iI r)] w (po_X5_stack w b0 b1 b2 b3 r) := by
  refine mI_of (by decide +kernel) (Nat.le_of_ble_eq_true rfl) (fun p e s m args below meth c ls C0 hW hl => ?_)
  have hl : lv_has ls 2 [(0, .ref (ad G 0 0)), (1, .int (iI r))] := hl
  have hx := C0.hx
  have hb := C0.hb
  obtain ⟨hp4, hh, hwfs, hs4, hl9⟩ := id hO
  obtain ⟨q0, q1, q2, q3, n1, n2, n3, n4, n5, n6⟩ := id hp4
  have hwf := hwfs 1 ms_1
  obtain ⟨⟨hs1, hs2⟩, ⟨hd1, hd2, hd3⟩, hwet, -, -, -, ⟨hr1, hr2⟩, ⟨hc1, hc2⟩, hds⟩ := id hwf
  have hu1 : ∀ (w : gW) (M : gM), up w 4 M 1 = w 1 := fun w M => up_n w M (by decide)
  have hu31 : ∀ (w : gW) (M : gM), up w b3 M 1 = w 1 := fun w M => up_n w M (by omega)
  have hu91 : ∀ (w : gW) (M : gM), up w 9 M 1 = w 1 := fun w M => up_n w M (by decide)
  have hu14 : ∀ (w : gW) (M : gM), up w 1 M 4 = w 4 := fun w M => up_n w M (by decide)
  have hu94 : ∀ (w : gW) (M : gM), up w 9 M 4 = w 4 := fun w M => up_n w M (by decide)
  have hu19 : ∀ (w : gW) (M : gM), up w 1 M 9 = w 9 := fun w M => up_n w M (by decide)
  have hu49 : ∀ (w : gW) (M : gM), up w 4 M 9 = w 9 := fun w M => up_n w M (by decide)
  have hu39 : ∀ (w : gW) (M : gM), up w b3 M 9 = w 9 := fun w M => up_n w M (by omega)
  have hu42 : ∀ (w : gW) (M : gM), up w 4 M 2 = w 2 := fun w M => up_n w M (by decide)
  have hu32 : ∀ (w : gW) (M : gM), up w b3 M 2 = w 2 := fun w M => up_n w M (by omega)
  have hu20 : ∀ (w : gW) (M : gM), up w 2 M 0 = w 0 := fun w M => up_n w M (by decide)
  have hu21 : ∀ (w : gW) (M : gM), up w 2 M 1 = w 1 := fun w M => up_n w M (by decide)
  have hu31b : ∀ (w : gW) (M : gM), up w 3 M 1 = w 1 := fun w M => up_n w M (by decide)
  have hu01 : ∀ (w : gW) (M : gM), up w 0 M 1 = w 1 := fun w M => up_n w M (by decide)
  have hu24 : ∀ (w : gW) (M : gM), up w 2 M 4 = w 4 := fun w M => up_n w M (by decide)
  have hu34 : ∀ (w : gW) (M : gM), up w 3 M 4 = w 4 := fun w M => up_n w M (by decide)
  refine lv_aload_n hx hb dX5_stack_0 rfl (lv_at hl 0 rfl) ?_
  refine r_gR C0 hW (show 0 < 11 ∧ 0 < bs 0 from ⟨by decide, by decide⟩) rfl rfl hiX5 (k := 0) (by decide) kf_X5_12 rfl rfl rfl dX5_stack_1 ?_
  refine r_gR C0 hW (show 1 < 11 ∧ 0 < bs 1 from ⟨by decide, by decide⟩) (ceX_m ms_1 G 0 _ _) rfl hiX3 (k := 6) (by decide) kf_X5_80 rfl rfl rfl dX5_stack_4 ?_
  refine lv_iload_n hx hb dX5_stack_7 rfl (lv_at hl 1 rfl) ?_
  refine k_Vi (j := 1) (k0 := 7) C0 hW (c_X4_isLying l G w ms_1 hwf r rr) km_X5_93 ki_X4_isLying ke_X4_isLying kn_X4 kc_X4_isLying rfl hdV_X4_isLying ⟨by decide, by decide⟩ (show 1 < 11 ∧ 7 < bs 1 from ⟨by decide, by decide⟩) (ceX_m ms_1 G 7 _ _) rfl rfl hl.1 rfl (Nat.le_of_ble_eq_true rfl) dX5_stack_8 (fun z1 w1 H1 locs1 rz1 hp1 hW => ?_)
  obtain ⟨hp1, hq1⟩ := hp1
  subst hq1
  have rz1a := rz1.1
  have rz1b := rz1.2
  rcases hp1 with ⟨e1, hp1⟩ | ⟨e1, hp1⟩
  · subst e1
    obtain ⟨hp11, hp12, hp13⟩ := id hp1
    refine r_if_ne (tgt := 16) hx hb ⟨by omega, by omega⟩ dX5_stack_11 (by decide) (fun _ => ?_) (fun q => absurd q (by decide))
    refine lv_aload_n hx hb dX5_stack_16 rfl (lv_at hl 0 rfl) ?_
    refine r_gR C0 hW (show 0 < 11 ∧ 0 < bs 0 from ⟨by decide, by decide⟩) rfl rfl hiX5 (k := 0) (by decide) kf_X5_12 rfl rfl rfl dX5_stack_17 ?_
    refine r_gR C0 hW (show 1 < 11 ∧ 0 < bs 1 from ⟨by decide, by decide⟩) (ceX_m ms_1 G 0 _ _) rfl hiX3 (k := 6) (by decide) kf_X5_80 rfl rfl rfl dX5_stack_20 ?_
    refine lv_iload_n hx hb dX5_stack_23 rfl (lv_at hl 1 rfl) ?_
    refine k_Vi (j := 1) (k0 := 7) C0 hW (c_X4_isDry l G w ms_1 hwf r rr) km_X5_106 ki_X4_isDry ke_X4_isDry kn_X4 kc_X4_isDry rfl hdV_X4_isDry ⟨by decide, by decide⟩ (show 1 < 11 ∧ 7 < bs 1 from ⟨by decide, by decide⟩) (ceX_m ms_1 G 7 _ _) rfl rfl hl.1 rfl (Nat.le_of_ble_eq_true rfl) dX5_stack_24 (fun z2 w2 H1 locs1 rz2 hp2 hW => ?_)
    obtain ⟨hp2, hq2⟩ := hp2
    subst hq2
    have rz2a := rz2.1
    have rz2b := rz2.2
    rcases hp2 with ⟨e2, hp2⟩ | ⟨e2, hp2⟩
    · subst e2
      refine r_if_ne (tgt := 33) hx hb ⟨by omega, by omega⟩ dX5_stack_27 (by decide) (fun _ => ?_) (fun q => absurd q (by decide))
      refine lv_aload_n hx hb dX5_stack_33 rfl (lv_at hl 0 rfl) ?_
      refine r_gR C0 hW (show 0 < 11 ∧ 0 < bs 0 from ⟨by decide, by decide⟩) rfl rfl hiX5 (k := 0) (by decide) kf_X5_12 rfl rfl rfl dX5_stack_34 ?_
      refine r_gR C0 hW (show 1 < 11 ∧ 0 < bs 1 from ⟨by decide, by decide⟩) (ceX_m ms_1 G 0 _ _) rfl hiX3 (k := 6) (by decide) kf_X5_80 rfl rfl rfl dX5_stack_37 ?_
      refine r_gR C0 hW (show 1 < 11 ∧ 7 < bs 1 from ⟨by decide, by decide⟩) (ceX_m ms_1 G 7 _ _) rfl hiX4 (k := 4) (by decide) kf_X5_96 rfl rfl rfl dX5_stack_40 ?_
      refine lv_iload_n hx hb dX5_stack_43 rfl (lv_at hl 1 rfl) ?_
      refine r_zld C0 hW (show 1 < 11 ∧ 12 < bs 1 from ⟨by decide, by decide⟩) (ceX_m ms_1 G 12 _ _) (n := 120) (by omega) (by omega) (by omega) dX5_stack_44 (fun z3 (hz3 : z3 = gA (w 1) 12 r) rz3 => ?_)
      have rz3a := rz3.1
      have rz3b := rz3.2
      refine r_if_eq (tgt := 51) hx hb rz3 dX5_stack_45 (by decide) (fun c4 => ?_) (fun c4 => ?_)
      · refine lv_aload_n hx hb dX5_stack_51 rfl (lv_at hl 0 rfl) ?_
        refine r_gR C0 hW (show 0 < 11 ∧ 0 < bs 0 from ⟨by decide, by decide⟩) rfl rfl hiX5 (k := 3) (by decide) kf_X5_25 rfl rfl rfl dX5_stack_52 ?_
        refine lv_aload_n hx hb dX5_stack_55 rfl (lv_at hl 0 rfl) ?_
        refine r_gR C0 hW (show 0 < 11 ∧ 0 < bs 0 from ⟨by decide, by decide⟩) rfl rfl hiX5 (k := 0) (by decide) kf_X5_12 rfl rfl rfl dX5_stack_56 ?_
        refine k_Vv (j := 4) (k0 := 0) C0 hW (c_X2_record l G w (hp4) hh hwf (by first | omega | (simp (decide := true) only [id, up_s, gA_sF, gN_sF, gA_sA, gN_sA, gA_sS, gN_sS, if_true, if_false, true_and, and_true, false_and, and_false, hu1, hu31, hu91, hu14, hu94, hu19, hu49, hu39, hu42, hu32, hu20, hu21, hu31b, hu01, hu24, hu34]; omega))) km_X5_51 ki_X2_record ke_X2_record kn_X2 kc_X2_record rfl hdV_X2_record ⟨by decide, by decide⟩ (show 4 < 11 ∧ 0 < bs 4 from ⟨by decide, by decide⟩) rfl rfl rfl hl.1 rfl (Nat.le_of_ble_eq_true rfl) dX5_stack_59 (fun w5 H1 locs1 hp5 hW => ?_)
        have hw5 : w5 = _ := hp5
        refine lv_aload_n hx hb dX5_stack_62 rfl (lv_at hl 0 rfl) ?_
        refine r_gR C0 hW (show 0 < 11 ∧ 0 < bs 0 from ⟨by decide, by decide⟩) rfl rfl hiX5 (k := 0) (by decide) kf_X5_12 rfl rfl rfl dX5_stack_63 ?_
        refine r_gR C0 hW (show 1 < 11 ∧ 0 < bs 1 from ⟨by decide, by decide⟩) (ceX_m ms_1 G 0 _ _) rfl hiX3 (k := 6) (by decide) kf_X5_80 rfl rfl rfl dX5_stack_66 ?_
        refine r_gR C0 hW (show 1 < 11 ∧ 7 < bs 1 from ⟨by decide, by decide⟩) (ceX_m ms_1 G 7 _ _) rfl hiX4 (k := 4) (by decide) kf_X5_96 rfl rfl rfl dX5_stack_69 ?_
        refine lv_iload_n hx hb dX5_stack_72 rfl (lv_at hl 1 rfl) ?_
        refine r_iconst hx hb dX5_stack_73 ?_
        refine r_zst C0 hW (show 1 < 11 ∧ 12 < bs 1 from ⟨by decide, by decide⟩) (fun A => (ceX_m ms_1 G 12 _ _)) (n := 120) (v := iI 1) (iI_narz (by first | exact Or.inl rfl | exact Or.inr rfl | omega)) (by omega) (by omega) (by decide) dX5_stack_74 (fun H1 locs1 hW => ?_)
        obtain ⟨w6, hw6⟩ : ∃ wq9 : gW, wq9 = up w5 1 (sA (w5 1) 12 r (iI 1)) := ⟨_, rfl⟩
        rw [← hw6] at hW
        refine lv_aload_n hx hb dX5_stack_75 rfl (lv_at hl 0 rfl) ?_
        refine r_gR C0 hW (show 0 < 11 ∧ 0 < bs 0 from ⟨by decide, by decide⟩) rfl rfl hiX5 (k := 0) (by decide) kf_X5_12 rfl rfl rfl dX5_stack_76 ?_
        refine r_gR C0 hW (show 1 < 11 ∧ 0 < bs 1 from ⟨by decide, by decide⟩) (ceX_m ms_1 G 0 _ _) rfl hiX3 (k := 6) (by decide) kf_X5_80 rfl rfl rfl dX5_stack_79 ?_
        refine lv_aload_n hx hb dX5_stack_82 rfl (lv_at hl 0 rfl) ?_
        refine r_gR C0 hW (show 0 < 11 ∧ 0 < bs 0 from ⟨by decide, by decide⟩) rfl rfl hiX5 (k := 0) (by decide) kf_X5_12 rfl rfl rfl dX5_stack_83 ?_
        refine r_gR C0 hW (show 1 < 11 ∧ 0 < bs 1 from ⟨by decide, by decide⟩) (ceX_m ms_1 G 0 _ _) rfl hiX3 (k := 6) (by decide) kf_X5_80 rfl rfl rfl dX5_stack_86 ?_
        refine r_gR C0 hW (show 1 < 11 ∧ 7 < bs 1 from ⟨by decide, by decide⟩) (ceX_m ms_1 G 7 _ _) rfl hiX4 (k := 0) (by decide) kf_X5_109 rfl rfl rfl dX5_stack_89 ?_
        refine lv_iload_n hx hb dX5_stack_92 rfl (lv_at hl 1 rfl) ?_
        refine r_ild C0 hW (show 1 < 11 ∧ 8 < bs 1 from ⟨by decide, by decide⟩) (ceX_m ms_1 G 8 _ _) (n := 120) (by omega) (by omega) (by omega) dX5_stack_93 (fun z7 (hz7 : z7 = gA (w6 1) 8 r) rz7 => ?_)
        have rz7a := rz7.1
        have rz7b := rz7.2
        try simp (decide := true) only [hw6, hw5, up_s, gA_sF, gN_sF, gA_sA, gN_sA, gA_sS, gN_sS, if_true, if_false, true_and, and_true, false_and, and_false, hu1, hu31, hu91, hu14, hu94, hu19, hu49, hu39, hu42, hu32, hu20, hu21, hu31b, hu01, hu24, hu34] at hz7
        refine k_Vi (j := 1) (k0 := 7) C0 hW (c_X4_countStackedOf l G w6 ms_1 (by simp only [hw6, hw5, up_up, up_s, gA_sF, gN_sF, gA_sA, gN_sA, gA_sS, gN_sS, if_true, if_false, true_and, and_true, false_and, and_false, hu1, hu31, hu91, hu14, hu94, hu19, hu49, hu39, hu42, hu32, hu20, hu21, hu31b, hu01, hu24, hu34]; exact wf_st r hwf) z7 rz7) km_X5_112 ki_X4_countStackedOf ke_X4_countStackedOf kn_X4 kc_X4_countStackedOf rfl hdV_X4_countStackedOf ⟨by decide, by decide⟩ (show 1 < 11 ∧ 7 < bs 1 from ⟨by decide, by decide⟩) (ceX_m ms_1 G 7 _ _) rfl rfl hl.1 rfl (Nat.le_of_ble_eq_true rfl) dX5_stack_94 (fun z8 w8 H1 locs1 rz8 hp8 hW => ?_)
        obtain ⟨hp8, hq8⟩ := hp8
        subst hq8
        have rz8a := rz8.1
        have rz8b := rz8.2
        try simp (decide := true) only [hw6, hw5, up_s, gA_sF, gN_sF, gA_sA, gN_sA, gA_sS, gN_sS, if_true, if_false, true_and, and_true, false_and, and_false, hu1, hu31, hu91, hu14, hu94, hu19, hu49, hu39, hu42, hu32, hu20, hu21, hu31b, hu01, hu24, hu34] at hp8
        exact r_iret C0 hW rz8 (by first | exact Or.inl (⟨(by first | assumption | omega | trivial), (by first | omega | assumption | (simp only [hz3, hz7])), (by omega)⟩) | exact Or.inr (Or.inl (⟨(by first | assumption | omega | trivial), (by first | assumption | omega | trivial), (by first | omega | assumption | (simp only [hz3, hz7])), (by omega)⟩)) | exact Or.inr (Or.inr (Or.inl (⟨(by first | assumption | omega | trivial), (by first | assumption | omega | trivial), (by first | assumption | omega | trivial), (by first | omega | assumption | (simp only [hz3, hz7])), (by omega)⟩))) | exact Or.inr (Or.inr (Or.inr (⟨(by first | assumption | omega | trivial), (by first | assumption | omega | trivial), (by first | assumption | omega | trivial), (by rw [hp8]; simp only [hz3, hz7]), (by simp (decide := true) only [hw6, hw5, recW, up_up, up_s, gA_sF, gN_sF, gA_sA, gN_sA, gA_sS, gN_sS, if_true, if_false, true_and, and_true, false_and, and_false, hu1, hu31, hu91, hu14, hu94, hu19, hu49, hu39, hu42, hu32, hu20, hu21, hu31b, hu01, hu24, hu34, hz3, hz7])⟩)))) dX5_stack_97
      · refine r_bipush hx hb dX5_stack_48 (by decide) ?_
        exact r_iret C0 hW ⟨by omega, by omega⟩ (by first | exact Or.inl (⟨(by first | assumption | omega | trivial), (by first | omega | assumption | (simp only [hz3])), (rfl)⟩) | exact Or.inr (Or.inl (⟨(by first | assumption | omega | trivial), (by first | assumption | omega | trivial), (by first | omega | assumption | (simp only [hz3])), (rfl)⟩)) | exact Or.inr (Or.inr (Or.inl (⟨(by first | assumption | omega | trivial), (by first | assumption | omega | trivial), (by first | assumption | omega | trivial), (by first | omega | assumption | (simp only [hz3])), (rfl)⟩)))) dX5_stack_50
    · subst e2
      refine r_if_ne (tgt := 33) hx hb ⟨by omega, by omega⟩ dX5_stack_27 (by decide) (fun q => absurd q (by decide)) (fun _ => ?_)
      refine r_bipush hx hb dX5_stack_30 (by decide) ?_
      exact r_iret C0 hW ⟨by omega, by omega⟩ (by first | exact Or.inl (⟨(by first | assumption | omega | trivial), (by first | omega | assumption | (simp only [id])), (rfl)⟩) | exact Or.inr (Or.inl (⟨(by first | assumption | omega | trivial), (by first | assumption | omega | trivial), (by first | omega | assumption | (simp only [id])), (rfl)⟩)) | exact Or.inr (Or.inr (Or.inl (⟨(by first | assumption | omega | trivial), (by first | assumption | omega | trivial), (by first | assumption | omega | trivial), (by first | omega | assumption | (simp only [id])), (rfl)⟩)))) dX5_stack_32
  · subst e1
    refine r_if_ne (tgt := 16) hx hb ⟨by omega, by omega⟩ dX5_stack_11 (by decide) (fun q => absurd q (by decide)) (fun _ => ?_)
    refine r_iconst hx hb dX5_stack_14 ?_
    exact r_iret C0 hW ⟨by omega, by omega⟩ (by first | exact Or.inl (⟨(by first | assumption | omega | trivial), (by first | omega | assumption | (simp only [id])), (rfl)⟩) | exact Or.inr (Or.inl (⟨(by first | assumption | omega | trivial), (by first | assumption | omega | trivial), (by first | omega | assumption | (simp only [id])), (rfl)⟩)) | exact Or.inr (Or.inr (Or.inl (⟨(by first | assumption | omega | trivial), (by first | assumption | omega | trivial), (by first | assumption | omega | trivial), (by first | omega | assumption | (simp only [id])), (rfl)⟩)))) dX5_stack_15

/-- X5_pass: its end -/
def po_X5_pass (w : gW) (b0 : Nat) (b1 : Nat) (b2 : Nat) (b3 : Nat) (v : Int) : Int → gW → Prop := fun z w1 => ((¬ (0 ≤ v ∧ v ≤ 2)) ∧ (z = -2) ∧ (w1 = w)) ∨ ((0 ≤ v ∧ v ≤ 2) ∧ (iI z = iI (gN (dyX (w 1) v 1) 0 13 - gN (w 1) 0 13)) ∧ (w1 = up (recW w b0 b1 b2 b3) 1 (dyX (w 1) v 1)))
theorem hdV_X5_pass : yX5_pass.cls = RX5 ∧ yX5_pass.cls ≠ "java/lang/invoke/MethodHandle" ∧ yX5_pass.cls ≠ "java/lang/invoke/VarHandle" ∧ (parseMethodDescriptor yX5_pass.desc).map (fun d => d.parameters.length) = some 1 := by decide +kernel
set_option maxHeartbeats 4000000 in
set_option maxRecDepth 100000 in
theorem c_X5_pass (l : Launch) (G : gG) (w : gW) {b0 : Nat} {b1 : Nat} {b2 : Nat} {b3 : Nat} (hO : okW w b0 b1 b2 b3) (v : Int) (rv : inR v) : mI l G yX5_pass (wU yX5_pass cX5_pass 2 (some .int)) (rmL 6 124) [.ref (ad G 0 0), .int (iI v)] w (po_X5_pass w b0 b1 b2 b3 v) := by
  refine mI_of (by decide +kernel) (Nat.le_of_ble_eq_true rfl) (fun p e s m args below meth c ls C0 hW hl => ?_)
  have hl : lv_has ls 2 [(0, .ref (ad G 0 0)), (1, .int (iI v))] := hl
  have hx := C0.hx
  have hb := C0.hb
  obtain ⟨hp4, hh, hwfs, hs4, hl9⟩ := id hO
  obtain ⟨q0, q1, q2, q3, n1, n2, n3, n4, n5, n6⟩ := id hp4
  have hwf := hwfs 1 ms_1
  obtain ⟨⟨hs1, hs2⟩, ⟨hd1, hd2, hd3⟩, hwet, -, -, -, ⟨hr1, hr2⟩, ⟨hc1, hc2⟩, hds⟩ := id hwf
  have hu1 : ∀ (w : gW) (M : gM), up w 4 M 1 = w 1 := fun w M => up_n w M (by decide)
  have hu31 : ∀ (w : gW) (M : gM), up w b3 M 1 = w 1 := fun w M => up_n w M (by omega)
  have hu91 : ∀ (w : gW) (M : gM), up w 9 M 1 = w 1 := fun w M => up_n w M (by decide)
  have hu14 : ∀ (w : gW) (M : gM), up w 1 M 4 = w 4 := fun w M => up_n w M (by decide)
  have hu94 : ∀ (w : gW) (M : gM), up w 9 M 4 = w 4 := fun w M => up_n w M (by decide)
  have hu19 : ∀ (w : gW) (M : gM), up w 1 M 9 = w 9 := fun w M => up_n w M (by decide)
  have hu49 : ∀ (w : gW) (M : gM), up w 4 M 9 = w 9 := fun w M => up_n w M (by decide)
  have hu39 : ∀ (w : gW) (M : gM), up w b3 M 9 = w 9 := fun w M => up_n w M (by omega)
  have hu42 : ∀ (w : gW) (M : gM), up w 4 M 2 = w 2 := fun w M => up_n w M (by decide)
  have hu32 : ∀ (w : gW) (M : gM), up w b3 M 2 = w 2 := fun w M => up_n w M (by omega)
  have hu20 : ∀ (w : gW) (M : gM), up w 2 M 0 = w 0 := fun w M => up_n w M (by decide)
  have hu21 : ∀ (w : gW) (M : gM), up w 2 M 1 = w 1 := fun w M => up_n w M (by decide)
  have hu31b : ∀ (w : gW) (M : gM), up w 3 M 1 = w 1 := fun w M => up_n w M (by decide)
  have hu01 : ∀ (w : gW) (M : gM), up w 0 M 1 = w 1 := fun w M => up_n w M (by decide)
  have hu24 : ∀ (w : gW) (M : gM), up w 2 M 4 = w 4 := fun w M => up_n w M (by decide)
  have hu34 : ∀ (w : gW) (M : gM), up w 3 M 4 = w 4 := fun w M => up_n w M (by decide)
  refine lv_iload_n hx hb dX5_pass_0 rfl (lv_at hl 1 rfl) ?_
  refine k_Si (host := "") C0 hW (As := [.int (iI v)]) (c_X5_isWeather l G w v rv) km_X5_116 ks_X5_isWeather kn_X5 kc_X5_isWeather rfl hdS_X5_isWeather ⟨by decide, by decide⟩ rfl hl.1 rfl (Nat.le_of_ble_eq_true rfl) dX5_pass_1 (fun z1 w1 H1 locs1 rz1 hp1 hW => ?_)
  obtain ⟨hp1, hq1⟩ := hp1
  subst hq1
  have rz1a := rz1.1
  have rz1b := rz1.2
  rcases hp1 with ⟨e1, hp1⟩ | ⟨e1, hp1⟩
  · subst e1
    refine r_if_ne (tgt := 10) hx hb ⟨by omega, by omega⟩ dX5_pass_4 (by decide) (fun _ => ?_) (fun q => absurd q (by decide))
    refine lv_aload_n hx hb dX5_pass_10 rfl (lv_at hl 0 rfl) ?_
    refine r_gR C0 hW (show 0 < 11 ∧ 0 < bs 0 from ⟨by decide, by decide⟩) rfl rfl hiX5 (k := 3) (by decide) kf_X5_25 rfl rfl rfl dX5_pass_11 ?_
    refine lv_aload_n hx hb dX5_pass_14 rfl (lv_at hl 0 rfl) ?_
    refine r_gR C0 hW (show 0 < 11 ∧ 0 < bs 0 from ⟨by decide, by decide⟩) rfl rfl hiX5 (k := 0) (by decide) kf_X5_12 rfl rfl rfl dX5_pass_15 ?_
    refine k_Vv (j := 4) (k0 := 0) C0 hW (c_X2_record l G w (hp4) hh hwf (by first | omega | (simp (decide := true) only [id, up_s, gA_sF, gN_sF, gA_sA, gN_sA, gA_sS, gN_sS, if_true, if_false, true_and, and_true, false_and, and_false, hu1, hu31, hu91, hu14, hu94, hu19, hu49, hu39, hu42, hu32, hu20, hu21, hu31b, hu01, hu24, hu34]; omega))) km_X5_51 ki_X2_record ke_X2_record kn_X2 kc_X2_record rfl hdV_X2_record ⟨by decide, by decide⟩ (show 4 < 11 ∧ 0 < bs 4 from ⟨by decide, by decide⟩) rfl rfl rfl hl.1 rfl (Nat.le_of_ble_eq_true rfl) dX5_pass_18 (fun w2 H1 locs1 hp2 hW => ?_)
    have hw2 : w2 = _ := hp2
    refine lv_aload_n hx hb dX5_pass_21 rfl (lv_at hl 0 rfl) ?_
    refine r_gR C0 hW (show 0 < 11 ∧ 0 < bs 0 from ⟨by decide, by decide⟩) rfl rfl hiX5 (k := 0) (by decide) kf_X5_12 rfl rfl rfl dX5_pass_22 ?_
    refine r_iconst hx hb dX5_pass_25 ?_
    refine lv_iload_n hx hb dX5_pass_26 rfl (lv_at hl 1 rfl) ?_
    refine k_Vi (j := 1) (k0 := 0) C0 hW (c_X3_passDays l G w2 ms_1 (by simp only [hw2, up_up, up_s, hu1, hu31, hu91, hu14, hu94, hu19, hu49, hu39, hu42, hu32, hu20, hu21, hu31b, hu01, hu24, hu34]; exact hwf) 1 v ⟨by omega, by omega⟩ rv (by omega) (by omega)) km_X5_119 ki_X3_passDays ke_X3_passDays kn_X3 kc_X3_passDays rfl hdV_X3_passDays ⟨by decide, by decide⟩ (show 1 < 11 ∧ 0 < bs 1 from ⟨by decide, by decide⟩) (ceX_m ms_1 G 0 _ _) rfl rfl hl.1 rfl (Nat.le_of_ble_eq_true rfl) dX5_pass_27 (fun z3 w3 H1 locs1 rz3 hp3 hW => ?_)
    obtain ⟨hp3, hw3⟩ := hp3
    have rz3a := rz3.1
    have rz3b := rz3.2
    exact r_iret C0 hW rz3 (by first | exact Or.inl (⟨(by first | assumption | omega | trivial), (by first | omega | assumption | (simp only [id])), (by omega)⟩) | exact Or.inr (⟨(by first | assumption | omega | trivial), (by have q := hp3; simp (decide := true) only [hw3, hw2, up_s, gA_sF, gN_sF, gA_sA, gN_sA, gA_sS, gN_sS, if_true, if_false, true_and, and_true, false_and, and_false, hu1, hu31, hu91, hu14, hu94, hu19, hu49, hu39, hu42, hu32, hu20, hu21, hu31b, hu01, hu24, hu34] at q; exact q), (by simp (decide := true) only [hw3, hw2, recW, up_up, up_s, gA_sF, gN_sF, gA_sA, gN_sA, gA_sS, gN_sS, if_true, if_false, true_and, and_true, false_and, and_false, hu1, hu31, hu91, hu14, hu94, hu19, hu49, hu39, hu42, hu32, hu20, hu21, hu31b, hu01, hu24, hu34, id])⟩)) dX5_pass_30
  · subst e1
    refine r_if_ne (tgt := 10) hx hb ⟨by omega, by omega⟩ dX5_pass_4 (by decide) (fun q => absurd q (by decide)) (fun _ => ?_)
    refine r_bipush hx hb dX5_pass_7 (by decide) ?_
    exact r_iret C0 hW ⟨by omega, by omega⟩ (by first | exact Or.inl (⟨(by first | assumption | omega | trivial), (by first | omega | assumption | (simp only [id])), (rfl)⟩)) dX5_pass_9

/-- X5_settle: its end -/
def po_X5_settle (w : gW) (b0 : Nat) (b1 : Nat) (b2 : Nat) (b3 : Nat) : Int → gW → Prop := fun z w1 => ((gN (w 1) 14 5 - gN (w 1) 14 4 = 0) ∧ (z = -5) ∧ (w1 = w)) ∨ ((¬ gN (w 1) 14 5 - gN (w 1) 14 4 = 0) ∧ (z = stlZ (w 1)) ∧ (w1 = up (recW w b0 b1 b2 b3) 1 (stlM (w 1))))
theorem hdV_X5_settle : yX5_settle.cls = RX5 ∧ yX5_settle.cls ≠ "java/lang/invoke/MethodHandle" ∧ yX5_settle.cls ≠ "java/lang/invoke/VarHandle" ∧ (parseMethodDescriptor yX5_settle.desc).map (fun d => d.parameters.length) = some 0 := by decide +kernel
set_option maxHeartbeats 4000000 in
set_option maxRecDepth 100000 in
theorem c_X5_settle (l : Launch) (G : gG) (w : gW) {b0 : Nat} {b1 : Nat} {b2 : Nat} {b3 : Nat} (hO : okW w b0 b1 b2 b3) : mI l G yX5_settle (wU yX5_settle cX5_settle 1 (some .int)) (rmL 5 108) [.ref (ad G 0 0)] w (po_X5_settle w b0 b1 b2 b3) := by
  refine mI_of (by decide +kernel) (Nat.le_of_ble_eq_true rfl) (fun p e s m args below meth c ls C0 hW hl => ?_)
  have hl : lv_has ls 1 [(0, .ref (ad G 0 0))] := hl
  have hx := C0.hx
  have hb := C0.hb
  obtain ⟨hp4, hh, hwfs, hs4, hl9⟩ := id hO
  obtain ⟨q0, q1, q2, q3, n1, n2, n3, n4, n5, n6⟩ := id hp4
  have hwf := hwfs 1 ms_1
  obtain ⟨⟨hs1, hs2⟩, ⟨hd1, hd2, hd3⟩, hwet, -, -, -, ⟨hr1, hr2⟩, ⟨hc1, hc2⟩, hds⟩ := id hwf
  have hu1 : ∀ (w : gW) (M : gM), up w 4 M 1 = w 1 := fun w M => up_n w M (by decide)
  have hu31 : ∀ (w : gW) (M : gM), up w b3 M 1 = w 1 := fun w M => up_n w M (by omega)
  have hu91 : ∀ (w : gW) (M : gM), up w 9 M 1 = w 1 := fun w M => up_n w M (by decide)
  have hu14 : ∀ (w : gW) (M : gM), up w 1 M 4 = w 4 := fun w M => up_n w M (by decide)
  have hu94 : ∀ (w : gW) (M : gM), up w 9 M 4 = w 4 := fun w M => up_n w M (by decide)
  have hu19 : ∀ (w : gW) (M : gM), up w 1 M 9 = w 9 := fun w M => up_n w M (by decide)
  have hu49 : ∀ (w : gW) (M : gM), up w 4 M 9 = w 9 := fun w M => up_n w M (by decide)
  have hu39 : ∀ (w : gW) (M : gM), up w b3 M 9 = w 9 := fun w M => up_n w M (by omega)
  have hu42 : ∀ (w : gW) (M : gM), up w 4 M 2 = w 2 := fun w M => up_n w M (by decide)
  have hu32 : ∀ (w : gW) (M : gM), up w b3 M 2 = w 2 := fun w M => up_n w M (by omega)
  have hu20 : ∀ (w : gW) (M : gM), up w 2 M 0 = w 0 := fun w M => up_n w M (by decide)
  have hu21 : ∀ (w : gW) (M : gM), up w 2 M 1 = w 1 := fun w M => up_n w M (by decide)
  have hu31b : ∀ (w : gW) (M : gM), up w 3 M 1 = w 1 := fun w M => up_n w M (by decide)
  have hu01 : ∀ (w : gW) (M : gM), up w 0 M 1 = w 1 := fun w M => up_n w M (by decide)
  have hu24 : ∀ (w : gW) (M : gM), up w 2 M 4 = w 4 := fun w M => up_n w M (by decide)
  have hu34 : ∀ (w : gW) (M : gM), up w 3 M 4 = w 4 := fun w M => up_n w M (by decide)
  refine lv_aload_n hx hb dX5_settle_0 rfl (lv_at hl 0 rfl) ?_
  refine r_gR C0 hW (show 0 < 11 ∧ 0 < bs 0 from ⟨by decide, by decide⟩) rfl rfl hiX5 (k := 0) (by decide) kf_X5_12 rfl rfl rfl dX5_settle_1 ?_
  refine r_gR C0 hW (show 1 < 11 ∧ 0 < bs 1 from ⟨by decide, by decide⟩) (ceX_m ms_1 G 0 _ _) rfl hiX3 (k := 7) (by decide) kf_X5_135 rfl rfl rfl dX5_settle_4 ?_
  refine k_Vi (j := 1) (k0 := 14) C0 hW (c_X1_countOpen l G w ms_1 hwf) km_X5_139 ki_X1_countOpen ke_X1_countOpen kn_X1 kc_X1_countOpen rfl hdV_X1_countOpen ⟨by decide, by decide⟩ (show 1 < 11 ∧ 14 < bs 1 from ⟨by decide, by decide⟩) (ceX_m ms_1 G 14 _ _) rfl rfl hl.1 rfl (Nat.le_of_ble_eq_true rfl) dX5_settle_7 (fun z1 w1 H1 locs1 rz1 hp1 hW => ?_)
  obtain ⟨hp1, hq1⟩ := hp1
  subst hq1
  have rz1a := rz1.1
  have rz1b := rz1.2
  refine r_if_ne (tgt := 16) hx hb rz1 dX5_settle_10 (by decide) (fun c2 => ?_) (fun c2 => ?_)
  · refine lv_aload_n hx hb dX5_settle_16 rfl (lv_at hl 0 rfl) ?_
    refine r_gR C0 hW (show 0 < 11 ∧ 0 < bs 0 from ⟨by decide, by decide⟩) rfl rfl hiX5 (k := 3) (by decide) kf_X5_25 rfl rfl rfl dX5_settle_17 ?_
    refine lv_aload_n hx hb dX5_settle_20 rfl (lv_at hl 0 rfl) ?_
    refine r_gR C0 hW (show 0 < 11 ∧ 0 < bs 0 from ⟨by decide, by decide⟩) rfl rfl hiX5 (k := 0) (by decide) kf_X5_12 rfl rfl rfl dX5_settle_21 ?_
    refine k_Vv (j := 4) (k0 := 0) C0 hW (c_X2_record l G w (hp4) hh hwf (by first | omega | (simp (decide := true) only [id, up_s, gA_sF, gN_sF, gA_sA, gN_sA, gA_sS, gN_sS, if_true, if_false, true_and, and_true, false_and, and_false, hu1, hu31, hu91, hu14, hu94, hu19, hu49, hu39, hu42, hu32, hu20, hu21, hu31b, hu01, hu24, hu34]; omega))) km_X5_51 ki_X2_record ke_X2_record kn_X2 kc_X2_record rfl hdV_X2_record ⟨by decide, by decide⟩ (show 4 < 11 ∧ 0 < bs 4 from ⟨by decide, by decide⟩) rfl rfl rfl hl.1 rfl (Nat.le_of_ble_eq_true rfl) dX5_settle_24 (fun w3 H1 locs1 hp3 hW => ?_)
    have hw3 : w3 = _ := hp3
    refine lv_aload_n hx hb dX5_settle_27 rfl (lv_at hl 0 rfl) ?_
    refine r_gR C0 hW (show 0 < 11 ∧ 0 < bs 0 from ⟨by decide, by decide⟩) rfl rfl hiX5 (k := 0) (by decide) kf_X5_12 rfl rfl rfl dX5_settle_28 ?_
    refine k_Vi (j := 1) (k0 := 0) C0 hW (c_X3_settleOldest l G w3 ms_1 (by simp only [hw3, up_up, up_s, hu1, hu31, hu91, hu14, hu94, hu19, hu49, hu39, hu42, hu32, hu20, hu21, hu31b, hu01, hu24, hu34]; exact hwf) (by first | omega | (simp (decide := true) only [hw3, up_s, gA_sF, gN_sF, gA_sA, gN_sA, gA_sS, gN_sS, if_true, if_false, true_and, and_true, false_and, and_false, hu1, hu31, hu91, hu14, hu94, hu19, hu49, hu39, hu42, hu32, hu20, hu21, hu31b, hu01, hu24, hu34]; omega))) km_X5_144 ki_X3_settleOldest ke_X3_settleOldest kn_X3 kc_X3_settleOldest rfl hdV_X3_settleOldest ⟨by decide, by decide⟩ (show 1 < 11 ∧ 0 < bs 1 from ⟨by decide, by decide⟩) (ceX_m ms_1 G 0 _ _) rfl rfl hl.1 rfl (Nat.le_of_ble_eq_true rfl) dX5_settle_31 (fun z4 w4 H1 locs1 rz4 hp4 hW => ?_)
    obtain ⟨hp4, hw4⟩ := hp4
    have rz4a := rz4.1
    have rz4b := rz4.2
    exact r_iret C0 hW rz4 (by first | exact Or.inl (⟨(by first | assumption | omega | trivial), (by first | omega | assumption | (simp only [id])), (by omega)⟩) | exact Or.inr (⟨(by first | assumption | omega | trivial), (by have q := hp4; (try simp (decide := true) only [hw4, hw3, up_s, gA_sF, gN_sF, gA_sA, gN_sA, gA_sS, gN_sS, if_true, if_false, true_and, and_true, false_and, and_false, hu1, hu31, hu91, hu14, hu94, hu19, hu49, hu39, hu42, hu32, hu20, hu21, hu31b, hu01, hu24, hu34] at q); first | exact q | omega), (by simp (decide := true) only [hw4, hw3, recW, up_up, up_s, gA_sF, gN_sF, gA_sA, gN_sA, gA_sS, gN_sS, if_true, if_false, true_and, and_true, false_and, and_false, hu1, hu31, hu91, hu14, hu94, hu19, hu49, hu39, hu42, hu32, hu20, hu21, hu31b, hu01, hu24, hu34, id])⟩)) dX5_settle_34
  · refine r_bipush hx hb dX5_settle_13 (by decide) ?_
    exact r_iret C0 hW ⟨by omega, by omega⟩ (by first | exact Or.inl (⟨(by first | assumption | omega | trivial), (by first | omega | assumption | (simp only [id])), (rfl)⟩)) dX5_settle_15

/-- X5_endYear: its end -/
def po_X5_endYear (w : gW) (b0 : Nat) (b1 : Nat) (b2 : Nat) (b3 : Nat) : Int → gW → Prop := fun z w1 => ((True) ∧ (z = cntI (pLy (w 1)) (gN (w 1) 7 6)) ∧ (w1 = up (recW w b0 b1 b2 b3) 1 (yrM (w 1))))
theorem hdV_X5_endYear : yX5_endYear.cls = RX5 ∧ yX5_endYear.cls ≠ "java/lang/invoke/MethodHandle" ∧ yX5_endYear.cls ≠ "java/lang/invoke/VarHandle" ∧ (parseMethodDescriptor yX5_endYear.desc).map (fun d => d.parameters.length) = some 0 := by decide +kernel
set_option maxHeartbeats 4000000 in
set_option maxRecDepth 100000 in
theorem c_X5_endYear (l : Launch) (G : gG) (w : gW) {b0 : Nat} {b1 : Nat} {b2 : Nat} {b3 : Nat} (hO : okW w b0 b1 b2 b3) : mI l G yX5_endYear (wU yX5_endYear cX5_endYear 1 (some .int)) (rmL 5 103) [.ref (ad G 0 0)] w (po_X5_endYear w b0 b1 b2 b3) := by
  refine mI_of (by decide +kernel) (Nat.le_of_ble_eq_true rfl) (fun p e s m args below meth c ls C0 hW hl => ?_)
  have hl : lv_has ls 1 [(0, .ref (ad G 0 0))] := hl
  have hx := C0.hx
  have hb := C0.hb
  obtain ⟨hp4, hh, hwfs, hs4, hl9⟩ := id hO
  obtain ⟨q0, q1, q2, q3, n1, n2, n3, n4, n5, n6⟩ := id hp4
  have hwf := hwfs 1 ms_1
  obtain ⟨⟨hs1, hs2⟩, ⟨hd1, hd2, hd3⟩, hwet, -, -, -, ⟨hr1, hr2⟩, ⟨hc1, hc2⟩, hds⟩ := id hwf
  have hu1 : ∀ (w : gW) (M : gM), up w 4 M 1 = w 1 := fun w M => up_n w M (by decide)
  have hu31 : ∀ (w : gW) (M : gM), up w b3 M 1 = w 1 := fun w M => up_n w M (by omega)
  have hu91 : ∀ (w : gW) (M : gM), up w 9 M 1 = w 1 := fun w M => up_n w M (by decide)
  have hu14 : ∀ (w : gW) (M : gM), up w 1 M 4 = w 4 := fun w M => up_n w M (by decide)
  have hu94 : ∀ (w : gW) (M : gM), up w 9 M 4 = w 4 := fun w M => up_n w M (by decide)
  have hu19 : ∀ (w : gW) (M : gM), up w 1 M 9 = w 9 := fun w M => up_n w M (by decide)
  have hu49 : ∀ (w : gW) (M : gM), up w 4 M 9 = w 9 := fun w M => up_n w M (by decide)
  have hu39 : ∀ (w : gW) (M : gM), up w b3 M 9 = w 9 := fun w M => up_n w M (by omega)
  have hu42 : ∀ (w : gW) (M : gM), up w 4 M 2 = w 2 := fun w M => up_n w M (by decide)
  have hu32 : ∀ (w : gW) (M : gM), up w b3 M 2 = w 2 := fun w M => up_n w M (by omega)
  have hu20 : ∀ (w : gW) (M : gM), up w 2 M 0 = w 0 := fun w M => up_n w M (by decide)
  have hu21 : ∀ (w : gW) (M : gM), up w 2 M 1 = w 1 := fun w M => up_n w M (by decide)
  have hu31b : ∀ (w : gW) (M : gM), up w 3 M 1 = w 1 := fun w M => up_n w M (by decide)
  have hu01 : ∀ (w : gW) (M : gM), up w 0 M 1 = w 1 := fun w M => up_n w M (by decide)
  have hu24 : ∀ (w : gW) (M : gM), up w 2 M 4 = w 4 := fun w M => up_n w M (by decide)
  have hu34 : ∀ (w : gW) (M : gM), up w 3 M 4 = w 4 := fun w M => up_n w M (by decide)
  refine lv_aload_n hx hb dX5_endYear_0 rfl (lv_at hl 0 rfl) ?_
  refine r_gR C0 hW (show 0 < 11 ∧ 0 < bs 0 from ⟨by decide, by decide⟩) rfl rfl hiX5 (k := 3) (by decide) kf_X5_25 rfl rfl rfl dX5_endYear_1 ?_
  refine lv_aload_n hx hb dX5_endYear_4 rfl (lv_at hl 0 rfl) ?_
  refine r_gR C0 hW (show 0 < 11 ∧ 0 < bs 0 from ⟨by decide, by decide⟩) rfl rfl hiX5 (k := 0) (by decide) kf_X5_12 rfl rfl rfl dX5_endYear_5 ?_
  refine k_Vv (j := 4) (k0 := 0) C0 hW (c_X2_record l G w (hp4) hh hwf (by first | omega | (simp (decide := true) only [id, up_s, gA_sF, gN_sF, gA_sA, gN_sA, gA_sS, gN_sS, if_true, if_false, true_and, and_true, false_and, and_false, hu1, hu31, hu91, hu14, hu94, hu19, hu49, hu39, hu42, hu32, hu20, hu21, hu31b, hu01, hu24, hu34]; omega))) km_X5_51 ki_X2_record ke_X2_record kn_X2 kc_X2_record rfl hdV_X2_record ⟨by decide, by decide⟩ (show 4 < 11 ∧ 0 < bs 4 from ⟨by decide, by decide⟩) rfl rfl rfl hl.1 rfl (Nat.le_of_ble_eq_true rfl) dX5_endYear_8 (fun w1 H1 locs1 hp1 hW => ?_)
  have hw1 : w1 = _ := hp1
  refine lv_aload_n hx hb dX5_endYear_11 rfl (lv_at hl 0 rfl) ?_
  refine r_gR C0 hW (show 0 < 11 ∧ 0 < bs 0 from ⟨by decide, by decide⟩) rfl rfl hiX5 (k := 0) (by decide) kf_X5_12 rfl rfl rfl dX5_endYear_12 ?_
  refine k_Vi (j := 1) (k0 := 0) C0 hW (c_X3_closeYear l G w1 ms_1 (by simp only [hw1, up_up, up_s, hu1, hu31, hu91, hu14, hu94, hu19, hu49, hu39, hu42, hu32, hu20, hu21, hu31b, hu01, hu24, hu34]; exact hwf)) km_X5_147 ki_X3_closeYear ke_X3_closeYear kn_X3 kc_X3_closeYear rfl hdV_X3_closeYear ⟨by decide, by decide⟩ (show 1 < 11 ∧ 0 < bs 1 from ⟨by decide, by decide⟩) (ceX_m ms_1 G 0 _ _) rfl rfl hl.1 rfl (Nat.le_of_ble_eq_true rfl) dX5_endYear_15 (fun z2 w2 H1 locs1 rz2 hp2 hW => ?_)
  obtain ⟨hp2, hw2⟩ := hp2
  have rz2a := rz2.1
  have rz2b := rz2.2
  exact r_iret C0 hW rz2 (by first | exact ⟨(by first | assumption | omega | trivial), (by have q := hp2; simp (decide := true) only [hw2, hw1, up_s, gA_sF, gN_sF, gA_sA, gN_sA, gA_sS, gN_sS, if_true, if_false, true_and, and_true, false_and, and_false, hu1, hu31, hu91, hu14, hu94, hu19, hu49, hu39, hu42, hu32, hu20, hu21, hu31b, hu01, hu24, hu34] at q; exact q), (by simp (decide := true) only [hw2, hw1, recW, up_up, up_s, gA_sF, gN_sF, gA_sA, gN_sA, gA_sS, gN_sS, if_true, if_false, true_and, and_true, false_and, and_false, hu1, hu31, hu91, hu14, hu94, hu19, hu49, hu39, hu42, hu32, hu20, hu21, hu31b, hu01, hu24, hu34, id])⟩) dX5_endYear_18
