/-- X0_isDigit: its end -/
def po_X0_isDigit (w : gW) (v : Int) : Int → gW → Prop := fun z w1 => ((z = 1 ∧ isDg v) ∨ (z = 0 ∧ ¬ isDg v)) ∧ w = w1
theorem hdS_X0_isDigit : yX0_isDigit.cls ≠ "java/lang/invoke/MethodHandle" ∧ yX0_isDigit.cls ≠ "java/lang/invoke/VarHandle" ∧ (parseMethodDescriptor yX0_isDigit.desc).map (fun d => d.parameters.length) = some 1 := by decide +kernel
set_option maxHeartbeats 4000000 in
set_option maxRecDepth 100000 in
theorem c_X0_isDigit (l : Launch) (G : gG) (w : gW) (v : Int) (rv : inR v) : mI l G yX0_isDigit (wU yX0_isDigit cX0_isDigit 1 (some .boolean)) (rmL 0 0) [.int (iI v)] w (po_X0_isDigit w v) := by
  refine mI_of (by decide +kernel) (Nat.le_of_ble_eq_true rfl) (fun p e s m args below meth c ls C0 hW hl => ?_)
  have hl : lv_has ls 1 [(0, .int (iI v))] := hl
  have hx := C0.hx
  have hb := C0.hb
  refine lv_iload_n hx hb dX0_isDigit_0 rfl (lv_at hl 0 rfl) ?_
  refine r_bipush hx hb dX0_isDigit_1 (by decide) ?_
  refine r_icmp_lt (tgt := 16) hx hb rv ⟨by omega, by omega⟩ dX0_isDigit_3 (by decide) (fun c1 => ?_) (fun c1 => ?_)
  · refine r_iconst hx hb dX0_isDigit_16 ?_
    exact r_zret C0 hW (by first | exact Or.inl rfl | exact Or.inr rfl | omega) (⟨by unfold isDg; omega, rfl⟩) dX0_isDigit_17
  · refine lv_iload_n hx hb dX0_isDigit_6 rfl (lv_at hl 0 rfl) ?_
    refine r_bipush hx hb dX0_isDigit_7 (by decide) ?_
    refine r_icmp_gt (tgt := 16) hx hb rv ⟨by omega, by omega⟩ dX0_isDigit_9 (by decide) (fun c2 => ?_) (fun c2 => ?_)
    · refine r_iconst hx hb dX0_isDigit_16 ?_
      exact r_zret C0 hW (by first | exact Or.inl rfl | exact Or.inr rfl | omega) (⟨by unfold isDg; omega, rfl⟩) dX0_isDigit_17
    · refine r_iconst hx hb dX0_isDigit_12 ?_
      refine lv_goto (tgt := 17) hx hb dX0_isDigit_13 (by decide) ?_
      exact r_zret C0 hW (by first | exact Or.inl rfl | exact Or.inr rfl | omega) (⟨by unfold isDg; omega, rfl⟩) dX0_isDigit_17

/-- X0_isWeatherLetter: its end -/
def po_X0_isWeatherLetter (w : gW) (v : Int) : Int → gW → Prop := fun z w1 => ((z = 1 ∧ isL v) ∨ (z = 0 ∧ ¬ isL v)) ∧ w = w1
theorem hdS_X0_isWeatherLetter : yX0_isWeatherLetter.cls ≠ "java/lang/invoke/MethodHandle" ∧ yX0_isWeatherLetter.cls ≠ "java/lang/invoke/VarHandle" ∧ (parseMethodDescriptor yX0_isWeatherLetter.desc).map (fun d => d.parameters.length) = some 1 := by decide +kernel
set_option maxHeartbeats 4000000 in
set_option maxRecDepth 100000 in
theorem c_X0_isWeatherLetter (l : Launch) (G : gG) (w : gW) (v : Int) (rv : inR v) : mI l G yX0_isWeatherLetter (wU yX0_isWeatherLetter cX0_isWeatherLetter 1 (some .boolean)) (rmL 0 0) [.int (iI v)] w (po_X0_isWeatherLetter w v) := by
  refine mI_of (by decide +kernel) (Nat.le_of_ble_eq_true rfl) (fun p e s m args below meth c ls C0 hW hl => ?_)
  have hl : lv_has ls 1 [(0, .int (iI v))] := hl
  have hx := C0.hx
  have hb := C0.hb
  refine lv_iload_n hx hb dX0_isWeatherLetter_0 rfl (lv_at hl 0 rfl) ?_
  refine r_bipush hx hb dX0_isWeatherLetter_1 (by decide) ?_
  refine r_icmp_eq (tgt := 18) hx hb rv ⟨by omega, by omega⟩ dX0_isWeatherLetter_3 (by decide) (fun c1 => ?_) (fun c1 => ?_)
  · refine r_iconst hx hb dX0_isWeatherLetter_18 ?_
    refine lv_goto (tgt := 23) hx hb dX0_isWeatherLetter_19 (by decide) ?_
    exact r_zret C0 hW (by first | exact Or.inl rfl | exact Or.inr rfl | omega) (⟨by unfold isL; omega, rfl⟩) dX0_isWeatherLetter_23
  · refine lv_iload_n hx hb dX0_isWeatherLetter_6 rfl (lv_at hl 0 rfl) ?_
    refine r_bipush hx hb dX0_isWeatherLetter_7 (by decide) ?_
    refine r_icmp_eq (tgt := 18) hx hb rv ⟨by omega, by omega⟩ dX0_isWeatherLetter_9 (by decide) (fun c2 => ?_) (fun c2 => ?_)
    · refine r_iconst hx hb dX0_isWeatherLetter_18 ?_
      refine lv_goto (tgt := 23) hx hb dX0_isWeatherLetter_19 (by decide) ?_
      exact r_zret C0 hW (by first | exact Or.inl rfl | exact Or.inr rfl | omega) (⟨by unfold isL; omega, rfl⟩) dX0_isWeatherLetter_23
    · refine lv_iload_n hx hb dX0_isWeatherLetter_12 rfl (lv_at hl 0 rfl) ?_
      refine r_bipush hx hb dX0_isWeatherLetter_13 (by decide) ?_
      refine r_icmp_ne (tgt := 22) hx hb rv ⟨by omega, by omega⟩ dX0_isWeatherLetter_15 (by decide) (fun c3 => ?_) (fun c3 => ?_)
      · refine r_iconst hx hb dX0_isWeatherLetter_22 ?_
        exact r_zret C0 hW (by first | exact Or.inl rfl | exact Or.inr rfl | omega) (⟨by unfold isL; omega, rfl⟩) dX0_isWeatherLetter_23
      · refine r_iconst hx hb dX0_isWeatherLetter_18 ?_
        refine lv_goto (tgt := 23) hx hb dX0_isWeatherLetter_19 (by decide) ?_
        exact r_zret C0 hW (by first | exact Or.inl rfl | exact Or.inr rfl | omega) (⟨by unfold isL; omega, rfl⟩) dX0_isWeatherLetter_23

/-- X0_weatherOf: its end -/
def po_X0_weatherOf (w : gW) (v : Int) : Int → gW → Prop := fun z w1 => (z = wOf v) ∧ w = w1
theorem hdS_X0_weatherOf : yX0_weatherOf.cls ≠ "java/lang/invoke/MethodHandle" ∧ yX0_weatherOf.cls ≠ "java/lang/invoke/VarHandle" ∧ (parseMethodDescriptor yX0_weatherOf.desc).map (fun d => d.parameters.length) = some 1 := by decide +kernel
set_option maxHeartbeats 4000000 in
set_option maxRecDepth 100000 in
theorem c_X0_weatherOf (l : Launch) (G : gG) (w : gW) (v : Int) (rv : inR v) : mI l G yX0_weatherOf (wU yX0_weatherOf cX0_weatherOf 1 (some .int)) (rmL 0 0) [.int (iI v)] w (po_X0_weatherOf w v) := by
  refine mI_of (by decide +kernel) (Nat.le_of_ble_eq_true rfl) (fun p e s m args below meth c ls C0 hW hl => ?_)
  have hl : lv_has ls 1 [(0, .int (iI v))] := hl
  have hx := C0.hx
  have hb := C0.hb
  refine lv_iload_n hx hb dX0_weatherOf_0 rfl (lv_at hl 0 rfl) ?_
  refine r_bipush hx hb dX0_weatherOf_1 (by decide) ?_
  refine r_icmp_ne (tgt := 8) hx hb rv ⟨by omega, by omega⟩ dX0_weatherOf_3 (by decide) (fun c1 => ?_) (fun c1 => ?_)
  · refine lv_iload_n hx hb dX0_weatherOf_8 rfl (lv_at hl 0 rfl) ?_
    refine r_bipush hx hb dX0_weatherOf_9 (by decide) ?_
    refine r_icmp_ne (tgt := 18) hx hb rv ⟨by omega, by omega⟩ dX0_weatherOf_11 (by decide) (fun c2 => ?_) (fun c2 => ?_)
    · refine r_iconst hx hb dX0_weatherOf_18 ?_
      exact r_iret C0 hW ⟨by omega, by omega⟩ (⟨by unfold wOf; simp [*], rfl⟩) dX0_weatherOf_19
    · refine r_iconst hx hb dX0_weatherOf_14 ?_
      refine lv_goto (tgt := 19) hx hb dX0_weatherOf_15 (by decide) ?_
      exact r_iret C0 hW ⟨by omega, by omega⟩ (⟨by unfold wOf; simp [*], rfl⟩) dX0_weatherOf_19
  · refine r_iconst hx hb dX0_weatherOf_6 ?_
    exact r_iret C0 hW ⟨by omega, by omega⟩ (⟨by unfold wOf; simp [*], rfl⟩) dX0_weatherOf_7

/-- X0_openGroup: its end -/
def po_X0_openGroup (w : gW) (v : Int) : gW → Prop := fun w1 => w1 = up w 9 (opnG (w 9) v)
theorem hdV_X0_openGroup : yX0_openGroup.cls = RX0 ∧ yX0_openGroup.cls ≠ "java/lang/invoke/MethodHandle" ∧ yX0_openGroup.cls ≠ "java/lang/invoke/VarHandle" ∧ (parseMethodDescriptor yX0_openGroup.desc).map (fun d => d.parameters.length) = some 1 := by decide +kernel
set_option maxHeartbeats 4000000 in
set_option maxRecDepth 100000 in
theorem c_X0_openGroup (l : Launch) (G : gG) (w : gW) (hg9 : 0 ≤ gN (w 9) 0 4 ∧ gN (w 9) 0 4 < 60) (v : Int) (rv : inR v) : mV l G yX0_openGroup (wU yX0_openGroup cX0_openGroup 2 none) (rmL 0 0) [.ref (ad G 9 0), .int (iI v)] w (po_X0_openGroup w v) := by
  refine mV_of (by decide +kernel) (Nat.le_of_ble_eq_true rfl) (fun p e s m args below meth c ls C0 hW hl => ?_)
  have hl : lv_has ls 2 [(0, .ref (ad G 9 0)), (1, .int (iI v))] := hl
  have hx := C0.hx
  have hb := C0.hb
  refine lv_aload_n hx hb dX0_openGroup_0 rfl (lv_at hl 0 rfl) ?_
  refine r_gI C0 hW (show 9 < 11 ∧ 0 < bs 9 from ⟨by decide, by decide⟩) rfl rfl hiX0 (k := 4) (by decide) kf_X0_26 rfl rfl rfl dX0_openGroup_1 (fun z1 (hz1 : z1 = gN (w 9) 0 4) rz1 => ?_)
  have rz1a := rz1.1
  have rz1b := rz1.2
  refine r_bipush hx hb dX0_openGroup_4 (by decide) ?_
  refine r_icmp_ge (tgt := 39) hx hb rz1 ⟨by omega, by omega⟩ dX0_openGroup_6 (by decide) (fun c2 => ?_) (fun c2 => ?_)
  · exact r_vret C0 hW (by first | omega | (unfold po_X0_openGroup; simp only [id, up_up, up_s, opnG, hz1])) dX0_openGroup_39
  · refine lv_aload_n hx hb dX0_openGroup_9 rfl (lv_at hl 0 rfl) ?_
    refine r_gR C0 hW (show 9 < 11 ∧ 0 < bs 9 from ⟨by decide, by decide⟩) rfl rfl hiX0 (k := 2) (by decide) kf_X0_15 rfl rfl rfl dX0_openGroup_10 ?_
    refine lv_aload_n hx hb dX0_openGroup_13 rfl (lv_at hl 0 rfl) ?_
    refine r_gI C0 hW (show 9 < 11 ∧ 0 < bs 9 from ⟨by decide, by decide⟩) rfl rfl hiX0 (k := 4) (by decide) kf_X0_26 rfl rfl rfl dX0_openGroup_14 (fun z3 (hz3 : z3 = gN (w 9) 0 4) rz3 => ?_)
    have rz3a := rz3.1
    have rz3b := rz3.2
    refine lv_iload_n hx hb dX0_openGroup_17 rfl (lv_at hl 1 rfl) ?_
    refine r_ist C0 hW (show 9 < 11 ∧ 2 < bs 9 from ⟨by decide, by decide⟩) (fun A => rfl) (n := 60) (v := iI v) (by omega) (by omega) (by decide) dX0_openGroup_18 (fun H1 locs1 hW => ?_)
    obtain ⟨w4, hw4⟩ : ∃ wq9 : gW, wq9 = up w 9 (sA (w 9) 2 z3 (iI v)) := ⟨_, rfl⟩
    rw [← hw4] at hW
    refine lv_aload_n hx hb dX0_openGroup_19 rfl (lv_at hl 0 rfl) ?_
    refine r_gR C0 hW (show 9 < 11 ∧ 0 < bs 9 from ⟨by decide, by decide⟩) rfl rfl hiX0 (k := 3) (by decide) kf_X0_19 rfl rfl rfl dX0_openGroup_20 ?_
    refine lv_aload_n hx hb dX0_openGroup_23 rfl (lv_at hl 0 rfl) ?_
    refine r_gI C0 hW (show 9 < 11 ∧ 0 < bs 9 from ⟨by decide, by decide⟩) rfl rfl hiX0 (k := 4) (by decide) kf_X0_26 rfl rfl rfl dX0_openGroup_24 (fun z5 (hz5 : z5 = gN (w4 9) 0 4) rz5 => ?_)
    have rz5a := rz5.1
    have rz5b := rz5.2
    try simp (decide := true) only [hw4, up_s, gA_sF, gN_sF, gA_sA, gN_sA, gA_sS, gN_sS, if_true, if_false, true_and, and_true, false_and, and_false] at hz5
    refine r_iconst hx hb dX0_openGroup_27 ?_
    refine r_ist C0 hW (show 9 < 11 ∧ 3 < bs 9 from ⟨by decide, by decide⟩) (fun A => rfl) (n := 60) (v := iI 1) (by omega) (by omega) (by decide) dX0_openGroup_28 (fun H1 locs1 hW => ?_)
    obtain ⟨w6, hw6⟩ : ∃ wq9 : gW, wq9 = up w4 9 (sA (w4 9) 3 z5 (iI 1)) := ⟨_, rfl⟩
    rw [← hw6] at hW
    refine lv_aload_n hx hb dX0_openGroup_29 rfl (lv_at hl 0 rfl) ?_
    refine lv_dup hx hb dX0_openGroup_30 rfl ?_
    refine r_gI C0 hW (show 9 < 11 ∧ 0 < bs 9 from ⟨by decide, by decide⟩) rfl rfl hiX0 (k := 4) (by decide) kf_X0_26 rfl rfl rfl dX0_openGroup_31 (fun z7 (hz7 : z7 = gN (w6 9) 0 4) rz7 => ?_)
    have rz7a := rz7.1
    have rz7b := rz7.2
    try simp (decide := true) only [hw6, hw4, up_s, gA_sF, gN_sF, gA_sA, gN_sA, gA_sS, gN_sS, if_true, if_false, true_and, and_true, false_and, and_false] at hz7
    refine r_iconst hx hb dX0_openGroup_34 ?_
    refine r_iadd hx hb dX0_openGroup_35 ?_
    refine r_pI C0 hW (show 9 < 11 ∧ 0 < bs 9 from ⟨by decide, by decide⟩) rfl rfl hiX0 tyX0 tyX0_ok nmX0 (k := 4) (v := iI (z7 + 1)) (by decide) kf_X0_26 rfl rfl rfl (tyX0_ok 4 (by decide)) rfl rfl (by simp) rfl dX0_openGroup_36 (fun H1 locs1 hW => ?_)
    obtain ⟨w8, hw8⟩ : ∃ wq9 : gW, wq9 = up w6 9 (sS (w6 9) 0 4 (iI (z7 + 1))) := ⟨_, rfl⟩
    rw [← hw8] at hW
    exact r_vret C0 hW (by first | omega | (unfold po_X0_openGroup; simp only [hw8, hw6, hw4, up_up, up_s, opnG, hz1, hz3, hz5, hz7])) dX0_openGroup_39

/-- X0_append: its end -/
def po_X0_append (w : gW) (v : Int) : Int → gW → Prop := fun z w1 => (z = 0 ∧ gN (w 9) 0 1 = 60 ∧ w = w1) ∨ (z = 1 ∧ gN (w 9) 0 1 < 60 ∧ w1 = up w 9 (appM (w 9) v))
theorem hdV_X0_append : yX0_append.cls = RX0 ∧ yX0_append.cls ≠ "java/lang/invoke/MethodHandle" ∧ yX0_append.cls ≠ "java/lang/invoke/VarHandle" ∧ (parseMethodDescriptor yX0_append.desc).map (fun d => d.parameters.length) = some 1 := by decide +kernel
set_option maxHeartbeats 4000000 in
set_option maxRecDepth 100000 in
theorem c_X0_append (l : Launch) (G : gG) (w : gW) (hl9 : 0 ≤ gN (w 9) 0 1 ∧ gN (w 9) 0 1 ≤ 60) (v : Int) (rv : inR v) (hnar : vp_nar .char (iI v) = iI v) : mI l G yX0_append (wU yX0_append cX0_append 2 (some .boolean)) (rmL 0 0) [.ref (ad G 9 0), .int (iI v)] w (po_X0_append w v) := by
  refine mI_of (by decide +kernel) (Nat.le_of_ble_eq_true rfl) (fun p e s m args below meth c ls C0 hW hl => ?_)
  have hl : lv_has ls 2 [(0, .ref (ad G 9 0)), (1, .int (iI v))] := hl
  have hx := C0.hx
  have hb := C0.hb
  refine lv_aload_n hx hb dX0_append_0 rfl (lv_at hl 0 rfl) ?_
  refine r_gI C0 hW (show 9 < 11 ∧ 0 < bs 9 from ⟨by decide, by decide⟩) rfl rfl hiX0 (k := 1) (by decide) kf_X0_22 rfl rfl rfl dX0_append_1 (fun z1 (hz1 : z1 = gN (w 9) 0 1) rz1 => ?_)
  have rz1a := rz1.1
  have rz1b := rz1.2
  refine r_bipush hx hb dX0_append_4 (by decide) ?_
  refine r_icmp_lt (tgt := 11) hx hb rz1 ⟨by omega, by omega⟩ dX0_append_6 (by decide) (fun c2 => ?_) (fun c2 => ?_)
  · refine lv_aload_n hx hb dX0_append_11 rfl (lv_at hl 0 rfl) ?_
    refine r_gR C0 hW (show 9 < 11 ∧ 0 < bs 9 from ⟨by decide, by decide⟩) rfl rfl hiX0 (k := 0) (by decide) kf_X0_9 rfl rfl rfl dX0_append_12 ?_
    refine lv_aload_n hx hb dX0_append_15 rfl (lv_at hl 0 rfl) ?_
    refine r_gI C0 hW (show 9 < 11 ∧ 0 < bs 9 from ⟨by decide, by decide⟩) rfl rfl hiX0 (k := 1) (by decide) kf_X0_22 rfl rfl rfl dX0_append_16 (fun z3 (hz3 : z3 = gN (w 9) 0 1) rz3 => ?_)
    have rz3a := rz3.1
    have rz3b := rz3.2
    refine lv_iload_n hx hb dX0_append_19 rfl (lv_at hl 1 rfl) ?_
    refine r_cst C0 hW (show 9 < 11 ∧ 1 < bs 9 from ⟨by decide, by decide⟩) (fun A => rfl) (n := 60) (v := iI v) hnar (by omega) (by omega) (by decide) dX0_append_20 (fun H1 locs1 hW => ?_)
    obtain ⟨w4, hw4⟩ : ∃ wq9 : gW, wq9 = up w 9 (sA (w 9) 1 z3 (iI v)) := ⟨_, rfl⟩
    rw [← hw4] at hW
    refine lv_aload_n hx hb dX0_append_21 rfl (lv_at hl 0 rfl) ?_
    refine lv_dup hx hb dX0_append_22 rfl ?_
    refine r_gI C0 hW (show 9 < 11 ∧ 0 < bs 9 from ⟨by decide, by decide⟩) rfl rfl hiX0 (k := 1) (by decide) kf_X0_22 rfl rfl rfl dX0_append_23 (fun z5 (hz5 : z5 = gN (w4 9) 0 1) rz5 => ?_)
    have rz5a := rz5.1
    have rz5b := rz5.2
    try simp (decide := true) only [hw4, up_s, gA_sF, gN_sF, gA_sA, gN_sA, gA_sS, gN_sS, if_true, if_false, true_and, and_true, false_and, and_false] at hz5
    refine r_iconst hx hb dX0_append_26 ?_
    refine r_iadd hx hb dX0_append_27 ?_
    refine r_pI C0 hW (show 9 < 11 ∧ 0 < bs 9 from ⟨by decide, by decide⟩) rfl rfl hiX0 tyX0 tyX0_ok nmX0 (k := 1) (v := iI (z5 + 1)) (by decide) kf_X0_22 rfl rfl rfl (tyX0_ok 1 (by decide)) rfl rfl (by simp) rfl dX0_append_28 (fun H1 locs1 hW => ?_)
    obtain ⟨w6, hw6⟩ : ∃ wq9 : gW, wq9 = up w4 9 (sS (w4 9) 0 1 (iI (z5 + 1))) := ⟨_, rfl⟩
    rw [← hw6] at hW
    refine r_iconst hx hb dX0_append_31 ?_
    exact r_zret C0 hW (by first | exact Or.inl rfl | exact Or.inr rfl | omega) (by first | exact Or.inl ⟨rfl, by omega, rfl⟩ | (refine Or.inr ⟨rfl, by omega, ?_⟩; simp only [hw6, hw4, up_up, up_s, appM, hz1, hz3, hz5])) dX0_append_32
  · refine r_iconst hx hb dX0_append_9 ?_
    exact r_zret C0 hW (by first | exact Or.inl rfl | exact Or.inr rfl | omega) (by first | exact Or.inl ⟨rfl, by omega, rfl⟩ | (refine Or.inr ⟨rfl, by omega, ?_⟩; simp only [id, up_up, up_s, appM, hz1])) dX0_append_10

/-- X0_readGroups: its end -/
def po_X0_readGroups (w : gW) : Int → gW → Prop := fun z w1 => (z = -1 ∧ (∀ q : Int, 0 ≤ q → q < gN (w 9) 0 1 → rgO (w 9) q) ∧ 0 < gN (rgW (w 9) (gN (w 9) 0 1)) 0 4 ∧ ¬ rgN (w 9) (gN (w 9) 0 1) = 1 ∧ w1 = up w 9 (rgW (w 9) (gN (w 9) 0 1))) ∨ (z = gN (w 9) 0 1 ∧ (∀ q : Int, 0 ≤ q → q < gN (w 9) 0 1 → rgO (w 9) q) ∧ (gN (rgW (w 9) (gN (w 9) 0 1)) 0 4 = 0 ∨ rgN (w 9) (gN (w 9) 0 1) = 1) ∧ w1 = up w 9 (rgW (w 9) (gN (w 9) 0 1))) ∨ (0 ≤ z ∧ z < gN (w 9) 0 1 ∧ (∀ q : Int, 0 ≤ q → q < z → rgO (w 9) q) ∧ ¬ rgO (w 9) z ∧ w1 = up w 9 (rgW (w 9) z))
theorem hdV_X0_readGroups : yX0_readGroups.cls = RX0 ∧ yX0_readGroups.cls ≠ "java/lang/invoke/MethodHandle" ∧ yX0_readGroups.cls ≠ "java/lang/invoke/VarHandle" ∧ (parseMethodDescriptor yX0_readGroups.desc).map (fun d => d.parameters.length) = some 0 := by decide +kernel
set_option maxHeartbeats 4000000 in
set_option maxRecDepth 100000 in
theorem c_X0_readGroups (l : Launch) (G : gG) (w : gW) (hl9 : 0 ≤ gN (w 9) 0 1 ∧ gN (w 9) 0 1 ≤ 60) : mI l G yX0_readGroups (wU yX0_readGroups cX0_readGroups 4 (some .int)) (rmL 1 21) [.ref (ad G 9 0)] w (po_X0_readGroups w) := by
  refine mI_of (by decide +kernel) (Nat.le_of_ble_eq_true rfl) (fun p e s m args below meth c ls C0 hW hl => ?_)
  have hl : lv_has ls 4 [(0, .ref (ad G 9 0))] := hl
  have hx := C0.hx
  have hb := C0.hb
  refine lv_aload_n hx hb dX0_readGroups_0 rfl (lv_at hl 0 rfl) ?_
  refine r_iconst hx hb dX0_readGroups_1 ?_
  refine r_pI C0 hW (show 9 < 11 ∧ 0 < bs 9 from ⟨by decide, by decide⟩) rfl rfl hiX0 tyX0 tyX0_ok nmX0 (k := 4) (v := iI 0) (by decide) kf_X0_26 rfl rfl rfl (tyX0_ok 4 (by decide)) rfl rfl (by simp) rfl dX0_readGroups_2 (fun H1 locs1 hW => ?_)
  obtain ⟨w1, hw1⟩ : ∃ wq9 : gW, wq9 = up w 9 (sS (w 9) 0 4 (iI 0)) := ⟨_, rfl⟩
  rw [← hw1] at hW
  refine r_iconst hx hb dX0_readGroups_5 ?_
  refine lv_istore_n (lv' := [(1, .int (iI 0)), (0, .ref (ad G 9 0))]) hx hb dX0_readGroups_6 rfl hl (by decide) rfl (fun ls hl => ?_)
  refine r_iconst hx hb dX0_readGroups_7 ?_
  refine lv_istore_n (lv' := [(2, .int (iI 0)), (1, .int (iI 0)), (0, .ref (ad G 9 0))]) hx hb dX0_readGroups_8 rfl hl (by decide) rfl (fun ls hl => ?_)
  have hL9 : ∀ (n : Nat) (x1 : Int) (x2 : Int) (wv : gW) (hwv : wv = up w 9 (rgW (w 9) x2)) (H0 : Heap) (locs0 : List Loc) (ls : Array Slot) (hm : gN (w 9) 0 1 - x2 < (n : Int)) (i9_0 : 0 ≤ x2) (i9_1 : x2 ≤ gN (w 9) 0 1) (i9_2 : x1 = rgN (w 9) x2) (i9_3 : 0 ≤ x1 ∧ x1 ≤ 60) (i9_4 : 0 ≤ gN (rgW (w 9) x2) 0 4 ∧ gN (rgW (w 9) x2) 0 4 ≤ x2) (i9_5 : ∀ q : Int, 0 ≤ q → q < x2 → rgO (w 9) q) (hW : wo G wv s H0 locs0) (hl : lv_has ls 4 [(2, .int (iI x2)), (1, .int (iI x1)), (0, .ref (ad G 9 0))]), W p l e (rmL 1 21) s m args below meth c H0 locs0 0 0 (QI G (po_X0_readGroups w) below args s) (F0 m 9 ls []) := by
    intro n
    induction n with
    | zero =>
      intro x1 x2 wv hwv H0 locs0 ls hm i9_0 i9_1 i9_2 i9_3 i9_4 i9_5 hW hl
      exact absurd hm (by omega)
    | succ n ih9 =>
      intro x1 x2 wv hwv H0 locs0 ls hm i9_0 i9_1 i9_2 i9_3 i9_4 i9_5 hW hl
      refine lv_iload_n hx hb dX0_readGroups_9 rfl (lv_at hl 0 rfl) ?_
      refine lv_aload_n hx hb dX0_readGroups_10 rfl (lv_at hl 2 rfl) ?_
      refine r_gI C0 hW (show 9 < 11 ∧ 0 < bs 9 from ⟨by decide, by decide⟩) rfl rfl hiX0 (k := 1) (by decide) kf_X0_22 rfl rfl rfl dX0_readGroups_11 (fun z2 (hz2 : z2 = gN (wv 9) 0 1) rz2 => ?_)
      have rz2a := rz2.1
      have rz2b := rz2.2
      try simp (decide := true) only [hwv, hw1, up_s, gA_sF, gN_sF, gA_sA, gN_sA, gA_sS, gN_sS, if_true, if_false, true_and, and_true, false_and, and_false, rgW_len, rgW_ch] at hz2
      refine r_icmp_ge (tgt := 108) hx hb ⟨by omega, by omega⟩ rz2 dX0_readGroups_14 (by decide) (fun c3 => ?_) (fun c3 => ?_)
      · have ex2 : gN (w 9) 0 1 = x2 := by omega
        refine lv_aload_n hx hb dX0_readGroups_108 rfl (lv_at hl 2 rfl) ?_
        refine r_gI C0 hW (show 9 < 11 ∧ 0 < bs 9 from ⟨by decide, by decide⟩) rfl rfl hiX0 (k := 4) (by decide) kf_X0_26 rfl rfl rfl dX0_readGroups_109 (fun z4 (hz4 : z4 = gN (wv 9) 0 4) rz4 => ?_)
        have rz4a := rz4.1
        have rz4b := rz4.2
        try simp (decide := true) only [hwv, hw1, up_s, gA_sF, gN_sF, gA_sA, gN_sA, gA_sS, gN_sS, if_true, if_false, true_and, and_true, false_and, and_false, rgW_len, rgW_ch] at hz4
        refine r_if_eq (tgt := 120) hx hb rz4 dX0_readGroups_112 (by decide) (fun c5 => ?_) (fun c5 => ?_)
        · refine lv_aload_n hx hb dX0_readGroups_120 rfl (lv_at hl 2 rfl) ?_
          refine r_gI C0 hW (show 9 < 11 ∧ 0 < bs 9 from ⟨by decide, by decide⟩) rfl rfl hiX0 (k := 1) (by decide) kf_X0_22 rfl rfl rfl dX0_readGroups_121 (fun z6 (hz6 : z6 = gN (wv 9) 0 1) rz6 => ?_)
          have rz6a := rz6.1
          have rz6b := rz6.2
          try simp (decide := true) only [hwv, hw1, up_s, gA_sF, gN_sF, gA_sA, gN_sA, gA_sS, gN_sS, if_true, if_false, true_and, and_true, false_and, and_false, rgW_len, rgW_ch] at hz6
          refine lv_goto (tgt := 128) hx hb dX0_readGroups_124 (by decide) ?_
          exact r_iret C0 hW rz6 (Or.inr (Or.inl ⟨by omega, fun q q0 q1 => i9_5 q q0 (by omega), by rw [ex2]; omega, by rw [ex2]; exact hwv⟩)) dX0_readGroups_128
        · refine lv_iload_n hx hb dX0_readGroups_115 rfl (lv_at hl 1 rfl) ?_
          refine r_iconst hx hb dX0_readGroups_116 ?_
          refine r_icmp_ne (tgt := 127) hx hb ⟨by omega, by omega⟩ ⟨by omega, by omega⟩ dX0_readGroups_117 (by decide) (fun c7 => ?_) (fun c7 => ?_)
          · refine r_iconst hx hb dX0_readGroups_127 ?_
            exact r_iret C0 hW ⟨by omega, by omega⟩ (Or.inl ⟨rfl, fun q q0 q1 => i9_5 q q0 (by omega), by rw [ex2]; omega, by rw [ex2]; omega, by rw [ex2]; exact hwv⟩) dX0_readGroups_128
          · refine lv_aload_n hx hb dX0_readGroups_120 rfl (lv_at hl 2 rfl) ?_
            refine r_gI C0 hW (show 9 < 11 ∧ 0 < bs 9 from ⟨by decide, by decide⟩) rfl rfl hiX0 (k := 1) (by decide) kf_X0_22 rfl rfl rfl dX0_readGroups_121 (fun z8 (hz8 : z8 = gN (wv 9) 0 1) rz8 => ?_)
            have rz8a := rz8.1
            have rz8b := rz8.2
            try simp (decide := true) only [hwv, hw1, up_s, gA_sF, gN_sF, gA_sA, gN_sA, gA_sS, gN_sS, if_true, if_false, true_and, and_true, false_and, and_false, rgW_len, rgW_ch] at hz8
            refine lv_goto (tgt := 128) hx hb dX0_readGroups_124 (by decide) ?_
            exact r_iret C0 hW rz8 (Or.inr (Or.inl ⟨by omega, fun q q0 q1 => i9_5 q q0 (by omega), by rw [ex2]; omega, by rw [ex2]; exact hwv⟩)) dX0_readGroups_128
      · refine lv_aload_n hx hb dX0_readGroups_17 rfl (lv_at hl 2 rfl) ?_
        refine r_gR C0 hW (show 9 < 11 ∧ 0 < bs 9 from ⟨by decide, by decide⟩) rfl rfl hiX0 (k := 0) (by decide) kf_X0_9 rfl rfl rfl dX0_readGroups_18 ?_
        refine lv_iload_n hx hb dX0_readGroups_21 rfl (lv_at hl 0 rfl) ?_
        refine r_cld C0 hW (show 9 < 11 ∧ 1 < bs 9 from ⟨by decide, by decide⟩) rfl (n := 60) (by omega) (by omega) (by omega) dX0_readGroups_22 (fun z9 (hz9 : z9 = gA (wv 9) 1 x2) rz9 => ?_)
        have rz9a := rz9.1
        have rz9b := rz9.2
        try simp (decide := true) only [hwv, hw1, up_s, gA_sF, gN_sF, gA_sA, gN_sA, gA_sS, gN_sS, if_true, if_false, true_and, and_true, false_and, and_false, rgW_len, rgW_ch] at hz9
        refine lv_istore_n (lv' := [(3, .int (iI z9)), (2, .int (iI x2)), (1, .int (iI x1)), (0, .ref (ad G 9 0))]) hx hb dX0_readGroups_23 rfl hl (by decide) rfl (fun ls hl => ?_)
        refine lv_iload_n hx hb dX0_readGroups_24 rfl (lv_at hl 0 rfl) ?_
        refine k_Si (host := "") C0 hW (As := [.int (iI z9)]) (c_X0_isWeatherLetter l G wv z9 rz9) km_X0_29 ks_X0_isWeatherLetter kn_X0 kc_X0_isWeatherLetter rfl hdS_X0_isWeatherLetter ⟨by decide, by decide⟩ rfl hl.1 rfl (Nat.le_of_ble_eq_true rfl) dX0_readGroups_25 (fun z10 w10 H1 locs1 rz10 hp10 hW => ?_)
        obtain ⟨hp10, hq10⟩ := hp10
        subst hq10
        have rz10a := rz10.1
        have rz10b := rz10.2
        try simp (decide := true) only [hwv, hw1, up_s, gA_sF, gN_sF, gA_sA, gN_sA, gA_sS, gN_sS, if_true, if_false, true_and, and_true, false_and, and_false, rgW_len, rgW_ch] at hp10
        rcases hp10 with ⟨e10, hp10⟩ | ⟨e10, hp10⟩
        · subst e10
          refine r_if_eq (tgt := 49) hx hb ⟨by omega, by omega⟩ dX0_readGroups_28 (by decide) (fun q => absurd q (by decide)) (fun _ => ?_)
          refine lv_iload_n hx hb dX0_readGroups_31 rfl (lv_at hl 2 rfl) ?_
          refine r_iconst hx hb dX0_readGroups_32 ?_
          refine r_icmp_eq (tgt := 49) hx hb ⟨by omega, by omega⟩ ⟨by omega, by omega⟩ dX0_readGroups_33 (by decide) (fun c11 => ?_) (fun c11 => ?_)
          · refine lv_iload_n hx hb dX0_readGroups_49 rfl (lv_at hl 0 rfl) ?_
            refine k_Si (host := "") C0 hW (As := [.int (iI z9)]) (c_X0_isDigit l G wv z9 rz9) km_X0_41 ks_X0_isDigit kn_X0 kc_X0_isDigit rfl hdS_X0_isDigit ⟨by decide, by decide⟩ rfl hl.1 rfl (Nat.le_of_ble_eq_true rfl) dX0_readGroups_50 (fun z12 w12 H1 locs1 rz12 hp12 hW => ?_)
            obtain ⟨hp12, hq12⟩ := hp12
            subst hq12
            have rz12a := rz12.1
            have rz12b := rz12.2
            try simp (decide := true) only [hwv, hw1, up_s, gA_sF, gN_sF, gA_sA, gN_sA, gA_sS, gN_sS, if_true, if_false, true_and, and_true, false_and, and_false, rgW_len, rgW_ch] at hp12
            rcases hp12 with ⟨e12, hp12⟩ | ⟨e12, hp12⟩
            · subst e12
              have hp12d := hp12
              unfold isDg at hp12d
              refine r_if_eq (tgt := 100) hx hb ⟨by omega, by omega⟩ dX0_readGroups_53 (by decide) (fun q => absurd q (by decide)) (fun _ => ?_)
              exact absurd hp12 (by have q := hp10; unfold isL at q; unfold isDg; omega)
            · subst e12
              refine r_if_eq (tgt := 100) hx hb ⟨by omega, by omega⟩ dX0_readGroups_53 (by decide) (fun _ => ?_) (fun q => absurd q (by decide))
              refine lv_iload_n hx hb dX0_readGroups_100 rfl (lv_at hl 1 rfl) ?_
              exact r_iret C0 hW ⟨by omega, by omega⟩ (Or.inr (Or.inr ⟨by omega, by omega, fun q q0 q1 => i9_5 q q0 q1, fun hO => by unfold rgO at hO; rw [← hz9, ← i9_2] at hO; rcases hO with ⟨a9, b9⟩ | ⟨a9, b9, d9, e9, f9⟩ <;> first | (exact absurd a9 (by assumption)) | omega | (exact absurd b9 (by assumption)) | (unfold isL isDg at *; omega), hwv⟩)) dX0_readGroups_101
          · refine lv_aload_n hx hb dX0_readGroups_36 rfl (lv_at hl 3 rfl) ?_
            refine lv_iload_n hx hb dX0_readGroups_37 rfl (lv_at hl 0 rfl) ?_
            refine k_Si (host := "") C0 hW (As := [.int (iI z9)]) (c_X0_weatherOf l G wv z9 rz9) km_X0_33 ks_X0_weatherOf kn_X0 kc_X0_weatherOf rfl hdS_X0_weatherOf ⟨by decide, by decide⟩ rfl hl.1 rfl (Nat.le_of_ble_eq_true rfl) dX0_readGroups_38 (fun z13 w13 H1 locs1 rz13 hp13 hW => ?_)
            obtain ⟨hp13, hq13⟩ := hp13
            subst hq13
            have rz13a := rz13.1
            have rz13b := rz13.2
            try simp (decide := true) only [hwv, hw1, up_s, gA_sF, gN_sF, gA_sA, gN_sA, gA_sS, gN_sS, if_true, if_false, true_and, and_true, false_and, and_false, rgW_len, rgW_ch] at hp13
            refine k_Vv (j := 9) (k0 := 0) C0 hW (c_X0_openGroup l G wv (by first | omega | (simp only [hwv, hw1, up_s]; omega)) z13 rz13) km_X0_37 ki_X0_openGroup ke_X0_openGroup kn_X0 kc_X0_openGroup rfl hdV_X0_openGroup ⟨by decide, by decide⟩ (show 9 < 11 ∧ 0 < bs 9 from ⟨by decide, by decide⟩) rfl rfl rfl hl.1 rfl (Nat.le_of_ble_eq_true rfl) dX0_readGroups_41 (fun w14 H1 locs1 hp14 hW => ?_)
            have hw14 : w14 = _ := hp14
            refine r_iconst hx hb dX0_readGroups_44 ?_
            refine lv_istore_n (lv' := [(1, .int (iI 0)), (3, .int (iI z9)), (2, .int (iI x2)), (0, .ref (ad G 9 0))]) hx hb dX0_readGroups_45 rfl hl (by decide) rfl (fun ls hl => ?_)
            refine lv_goto (tgt := 102) hx hb dX0_readGroups_46 (by decide) ?_
            have hsp := rg_stepL (M := w 9) (x := x2) (by omega) (by omega) (by rw [← hz9]; exact hp10) (by omega) i9_4 i9_5
            refine r_iinc (lv' := [(2, .int (iI (x2 + 1))), (1, .int (iI 0)), (3, .int (iI z9)), (0, .ref (ad G 9 0))]) hx hb dX0_readGroups_102 hl (k := 2) rfl (by decide) rfl (fun ls hl => ?_)
            refine lv_goto (tgt := 9) hx hb dX0_readGroups_105 (by decide) ?_
            exact ih9 0 (x2 + 1) _ (by rw [hsp.2.2.2]; simp only [hw14, hwv, hw1, up_up, up_s, i9_2, hz2, hz9, hp13]) _ _ ls (by omega) (by omega) (by omega) (hsp.1.symm) (by omega) (hsp.2.1) (hsp.2.2.1) hW (lv_sub hl [0, 1, 3] rfl)
        · subst e10
          refine r_if_eq (tgt := 49) hx hb ⟨by omega, by omega⟩ dX0_readGroups_28 (by decide) (fun _ => ?_) (fun q => absurd q (by decide))
          refine lv_iload_n hx hb dX0_readGroups_49 rfl (lv_at hl 0 rfl) ?_
          refine k_Si (host := "") C0 hW (As := [.int (iI z9)]) (c_X0_isDigit l G wv z9 rz9) km_X0_41 ks_X0_isDigit kn_X0 kc_X0_isDigit rfl hdS_X0_isDigit ⟨by decide, by decide⟩ rfl hl.1 rfl (Nat.le_of_ble_eq_true rfl) dX0_readGroups_50 (fun z15 w15 H1 locs1 rz15 hp15 hW => ?_)
          obtain ⟨hp15, hq15⟩ := hp15
          subst hq15
          have rz15a := rz15.1
          have rz15b := rz15.2
          try simp (decide := true) only [hwv, hw1, up_s, gA_sF, gN_sF, gA_sA, gN_sA, gA_sS, gN_sS, if_true, if_false, true_and, and_true, false_and, and_false, rgW_len, rgW_ch] at hp15
          rcases hp15 with ⟨e15, hp15⟩ | ⟨e15, hp15⟩
          · subst e15
            have hp15d := hp15
            unfold isDg at hp15d
            refine r_if_eq (tgt := 100) hx hb ⟨by omega, by omega⟩ dX0_readGroups_53 (by decide) (fun q => absurd q (by decide)) (fun _ => ?_)
            skip
            refine lv_aload_n hx hb dX0_readGroups_56 rfl (lv_at hl 3 rfl) ?_
            refine r_gI C0 hW (show 9 < 11 ∧ 0 < bs 9 from ⟨by decide, by decide⟩) rfl rfl hiX0 (k := 4) (by decide) kf_X0_26 rfl rfl rfl dX0_readGroups_57 (fun z16 (hz16 : z16 = gN (wv 9) 0 4) rz16 => ?_)
            have rz16a := rz16.1
            have rz16b := rz16.2
            try simp (decide := true) only [hwv, hw1, up_s, gA_sF, gN_sF, gA_sA, gN_sA, gA_sS, gN_sS, if_true, if_false, true_and, and_true, false_and, and_false, rgW_len, rgW_ch] at hz16
            refine r_if_le (tgt := 100) hx hb rz16 dX0_readGroups_60 (by decide) (fun c17 => ?_) (fun c17 => ?_)
            · refine lv_iload_n hx hb dX0_readGroups_100 rfl (lv_at hl 1 rfl) ?_
              exact r_iret C0 hW ⟨by omega, by omega⟩ (Or.inr (Or.inr ⟨by omega, by omega, fun q q0 q1 => i9_5 q q0 q1, fun hO => by unfold rgO at hO; rw [← hz9, ← i9_2] at hO; rcases hO with ⟨a9, b9⟩ | ⟨a9, b9, d9, e9, f9⟩ <;> first | (exact absurd a9 (by assumption)) | omega | (exact absurd b9 (by assumption)) | (unfold isL isDg at *; omega), hwv⟩)) dX0_readGroups_101
            · refine lv_iload_n hx hb dX0_readGroups_63 rfl (lv_at hl 2 rfl) ?_
              refine r_bipush hx hb dX0_readGroups_64 (by decide) ?_
              refine r_imul hx hb dX0_readGroups_66 ?_
              refine lv_iload_n hx hb dX0_readGroups_67 rfl (lv_at hl 0 rfl) ?_
              refine r_bipush hx hb dX0_readGroups_68 (by decide) ?_
              refine r_isub hx hb dX0_readGroups_70 ?_
              refine r_iadd hx hb dX0_readGroups_71 ?_
              refine lv_istore_n (lv' := [(1, .int (iI ((x1 * 10) + (z9 - 48)))), (3, .int (iI z9)), (2, .int (iI x2)), (0, .ref (ad G 9 0))]) hx hb dX0_readGroups_72 rfl hl (by decide) rfl (fun ls hl => ?_)
              refine lv_iload_n hx hb dX0_readGroups_73 rfl (lv_at hl 0 rfl) ?_
              refine r_if_eq (tgt := 83) hx hb ⟨by omega, by omega⟩ dX0_readGroups_74 (by decide) (fun c18 => ?_) (fun c18 => ?_)
              · refine lv_iload_n hx hb dX0_readGroups_83 rfl (lv_at hl 2 rfl) ?_
                exact r_iret C0 hW ⟨by omega, by omega⟩ (Or.inr (Or.inr ⟨by omega, by omega, fun q q0 q1 => i9_5 q q0 q1, fun hO => by unfold rgO at hO; rw [← hz9, ← i9_2] at hO; rcases hO with ⟨a9, b9⟩ | ⟨a9, b9, d9, e9, f9⟩ <;> first | (exact absurd a9 (by assumption)) | omega | (exact absurd b9 (by assumption)) | (unfold isL isDg at *; omega), hwv⟩)) dX0_readGroups_84
              · refine lv_iload_n hx hb dX0_readGroups_77 rfl (lv_at hl 0 rfl) ?_
                refine r_bipush hx hb dX0_readGroups_78 (by decide) ?_
                refine r_icmp_le (tgt := 85) hx hb ⟨by omega, by omega⟩ ⟨by omega, by omega⟩ dX0_readGroups_80 (by decide) (fun c19 => ?_) (fun c19 => ?_)
                · refine lv_aload_n hx hb dX0_readGroups_85 rfl (lv_at hl 3 rfl) ?_
                  refine r_gR C0 hW (show 9 < 11 ∧ 0 < bs 9 from ⟨by decide, by decide⟩) rfl rfl hiX0 (k := 3) (by decide) kf_X0_19 rfl rfl rfl dX0_readGroups_86 ?_
                  refine lv_aload_n hx hb dX0_readGroups_89 rfl (lv_at hl 3 rfl) ?_
                  refine r_gI C0 hW (show 9 < 11 ∧ 0 < bs 9 from ⟨by decide, by decide⟩) rfl rfl hiX0 (k := 4) (by decide) kf_X0_26 rfl rfl rfl dX0_readGroups_90 (fun z20 (hz20 : z20 = gN (wv 9) 0 4) rz20 => ?_)
                  have rz20a := rz20.1
                  have rz20b := rz20.2
                  try simp (decide := true) only [hwv, hw1, up_s, gA_sF, gN_sF, gA_sA, gN_sA, gA_sS, gN_sS, if_true, if_false, true_and, and_true, false_and, and_false, rgW_len, rgW_ch] at hz20
                  refine r_iconst hx hb dX0_readGroups_93 ?_
                  refine r_isub hx hb dX0_readGroups_94 ?_
                  refine lv_iload_n hx hb dX0_readGroups_95 rfl (lv_at hl 0 rfl) ?_
                  refine r_ist C0 hW (show 9 < 11 ∧ 3 < bs 9 from ⟨by decide, by decide⟩) (fun A => rfl) (n := 60) (v := iI ((x1 * 10) + (z9 - 48))) (by omega) (by omega) (by decide) dX0_readGroups_96 (fun H1 locs1 hW => ?_)
                  obtain ⟨w21, hw21⟩ : ∃ wq9 : gW, wq9 = up wv 9 (sA (wv 9) 3 (z20 - 1) (iI ((x1 * 10) + (z9 - 48)))) := ⟨_, rfl⟩
                  rw [← hw21] at hW
                  refine lv_goto (tgt := 102) hx hb dX0_readGroups_97 (by decide) ?_
                  have hsp := rg_stepD (M := w 9) (x := x2) (by omega) (by rw [← hz9]; exact hp10) (by rw [← hz9]; exact hp15) (by omega) (by omega) (by omega) i9_4 i9_5
                  refine r_iinc (lv' := [(2, .int (iI (x2 + 1))), (1, .int (iI ((x1 * 10) + (z9 - 48)))), (3, .int (iI z9)), (0, .ref (ad G 9 0))]) hx hb dX0_readGroups_102 hl (k := 2) rfl (by decide) rfl (fun ls hl => ?_)
                  refine lv_goto (tgt := 9) hx hb dX0_readGroups_105 (by decide) ?_
                  exact ih9 ((x1 * 10) + (z9 - 48)) (x2 + 1) _ (by rw [hsp.2.2.2]; simp only [hw21, hwv, hw1, up_up, up_s, i9_2, hz2, hz9, hz16, hz20]) _ _ ls (by omega) (by omega) (by omega) (by rw [hsp.1]; omega) (by have q := hp15; unfold isDg at q; omega) (hsp.2.1) (hsp.2.2.1) hW (lv_sub hl [0, 1, 3] rfl)
                · refine lv_iload_n hx hb dX0_readGroups_83 rfl (lv_at hl 2 rfl) ?_
                  exact r_iret C0 hW ⟨by omega, by omega⟩ (Or.inr (Or.inr ⟨by omega, by omega, fun q q0 q1 => i9_5 q q0 q1, fun hO => by unfold rgO at hO; rw [← hz9, ← i9_2] at hO; rcases hO with ⟨a9, b9⟩ | ⟨a9, b9, d9, e9, f9⟩ <;> first | (exact absurd a9 (by assumption)) | omega | (exact absurd b9 (by assumption)) | (unfold isL isDg at *; omega), hwv⟩)) dX0_readGroups_84
          · subst e15
            refine r_if_eq (tgt := 100) hx hb ⟨by omega, by omega⟩ dX0_readGroups_53 (by decide) (fun _ => ?_) (fun q => absurd q (by decide))
            refine lv_iload_n hx hb dX0_readGroups_100 rfl (lv_at hl 1 rfl) ?_
            exact r_iret C0 hW ⟨by omega, by omega⟩ (Or.inr (Or.inr ⟨by omega, by omega, fun q q0 q1 => i9_5 q q0 q1, fun hO => by unfold rgO at hO; rw [← hz9, ← i9_2] at hO; rcases hO with ⟨a9, b9⟩ | ⟨a9, b9, d9, e9, f9⟩ <;> first | (exact absurd a9 (by assumption)) | omega | (exact absurd b9 (by assumption)) | (unfold isL isDg at *; omega), hwv⟩)) dX0_readGroups_101
  exact hL9 61 0 0 _ (by rw [(rg_0 (w 9)).1]; exact hw1) _ _ ls (by omega) (by omega) (by omega) ((rg_0 (w 9)).2.symm) (by omega) (by rw [(rg_0 (w 9)).1, show gN (sS (w 9) 0 4 (iI 0)) 0 4 = 0 from rfl]; omega) (fun q q0 q1 => absurd q1 (by omega)) hW (lv_sub hl [0, 1, 2] rfl)
