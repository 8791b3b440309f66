/-- X5_isWithin: its end -/
def po_X5_isWithin (w : gW) (v : Int) (a : Int) (b : Int) : Int → gW → Prop := fun z w1 => ((z = 1 ∧ (a ≤ v ∧ v ≤ b)) ∨ (z = 0 ∧ ¬ (a ≤ v ∧ v ≤ b))) ∧ w = w1
theorem hdS_X5_isWithin : yX5_isWithin.cls ≠ "java/lang/invoke/MethodHandle" ∧ yX5_isWithin.cls ≠ "java/lang/invoke/VarHandle" ∧ (parseMethodDescriptor yX5_isWithin.desc).map (fun d => d.parameters.length) = some 3 := by decide +kernel
set_option maxHeartbeats 4000000 in
set_option maxRecDepth 100000 in
theorem c_X5_isWithin (l : Launch) (G : gG) (w : gW) (v : Int) (a : Int) (b : Int) (rv : inR v) (ra : inR a) (rb : inR b) : mI l G yX5_isWithin (wU yX5_isWithin cX5_isWithin 3 (some .boolean)) (rmL 0 0) [.int (iI v), .int (iI a), .int (iI b)] w (po_X5_isWithin w v a b) := by
  refine mI_of (by decide +kernel) (Nat.le_of_ble_eq_true rfl) (fun p e s m args below meth c ls C0 hW hl => ?_)
  have hl : lv_has ls 3 [(0, .int (iI v)), (1, .int (iI a)), (2, .int (iI b))] := hl
  have hx := C0.hx
  have hb := C0.hb
  refine lv_iload_n hx hb dX5_isWithin_0 rfl (lv_at hl 0 rfl) ?_
  refine lv_iload_n hx hb dX5_isWithin_1 rfl (lv_at hl 1 rfl) ?_
  refine r_icmp_lt (tgt := 14) hx hb rv ra dX5_isWithin_2 (by decide) (fun c1 => ?_) (fun c1 => ?_)
  · refine r_iconst hx hb dX5_isWithin_14 ?_
    exact r_zret C0 hW (by first | exact Or.inl rfl | exact Or.inr rfl | omega) (⟨by omega, rfl⟩) dX5_isWithin_15
  · refine lv_iload_n hx hb dX5_isWithin_5 rfl (lv_at hl 0 rfl) ?_
    refine lv_iload_n hx hb dX5_isWithin_6 rfl (lv_at hl 2 rfl) ?_
    refine r_icmp_gt (tgt := 14) hx hb rv rb dX5_isWithin_7 (by decide) (fun c2 => ?_) (fun c2 => ?_)
    · refine r_iconst hx hb dX5_isWithin_14 ?_
      exact r_zret C0 hW (by first | exact Or.inl rfl | exact Or.inr rfl | omega) (⟨by omega, rfl⟩) dX5_isWithin_15
    · refine r_iconst hx hb dX5_isWithin_10 ?_
      refine lv_goto (tgt := 15) hx hb dX5_isWithin_11 (by decide) ?_
      exact r_zret C0 hW (by first | exact Or.inl rfl | exact Or.inr rfl | omega) (⟨by omega, rfl⟩) dX5_isWithin_15

/-- X5_isCommoner: its end -/
def po_X5_isCommoner (w : gW) (v : Int) : Int → gW → Prop := fun z w1 => ((z = 1 ∧ (0 ≤ v ∧ v ≤ 9)) ∨ (z = 0 ∧ ¬ (0 ≤ v ∧ v ≤ 9))) ∧ w = w1
theorem hdS_X5_isCommoner : yX5_isCommoner.cls ≠ "java/lang/invoke/MethodHandle" ∧ yX5_isCommoner.cls ≠ "java/lang/invoke/VarHandle" ∧ (parseMethodDescriptor yX5_isCommoner.desc).map (fun d => d.parameters.length) = some 1 := by decide +kernel
set_option maxHeartbeats 4000000 in
set_option maxRecDepth 100000 in
theorem c_X5_isCommoner (l : Launch) (G : gG) (w : gW) (v : Int) (rv : inR v) : mI l G yX5_isCommoner (wU yX5_isCommoner cX5_isCommoner 1 (some .boolean)) (rmL 1 22) [.int (iI v)] w (po_X5_isCommoner w v) := by
  refine mI_of (by decide +kernel) (Nat.le_of_ble_eq_true rfl) (fun p e s m args below meth c ls C0 hW hl => ?_)
  have hl : lv_has ls 1 [(0, .int (iI v))] := hl
  have hx := C0.hx
  have hb := C0.hb
  refine lv_iload_n hx hb dX5_isCommoner_0 rfl (lv_at hl 0 rfl) ?_
  refine r_iconst hx hb dX5_isCommoner_1 ?_
  refine r_bipush hx hb dX5_isCommoner_2 (by decide) ?_
  refine k_Si (host := "") C0 hW (As := [.int (iI v), .int (iI 0), .int (iI 9)]) (c_X5_isWithin l G w v 0 9 rv ⟨by omega, by omega⟩ ⟨by omega, by omega⟩) km_X5_58 ks_X5_isWithin kn_X5 kc_X5_isWithin rfl hdS_X5_isWithin ⟨by decide, by decide⟩ rfl hl.1 rfl (Nat.le_of_ble_eq_true rfl) dX5_isCommoner_4 (fun z1 w1 H1 locs1 rz1 hp1 hW => ?_)
  obtain ⟨hp1, hq1⟩ := hp1
  subst hq1
  have rz1a := rz1.1
  have rz1b := rz1.2
  rcases hp1 with ⟨e1, hp1⟩ | ⟨e1, hp1⟩
  · subst e1
    exact r_zret C0 hW (by first | exact Or.inl rfl | exact Or.inr rfl | omega) (⟨by omega, rfl⟩) dX5_isCommoner_7
  · subst e1
    exact r_zret C0 hW (by first | exact Or.inl rfl | exact Or.inr rfl | omega) (⟨by omega, rfl⟩) dX5_isCommoner_7

/-- X5_isPlot: its end -/
def po_X5_isPlot (w : gW) (v : Int) : Int → gW → Prop := fun z w1 => ((z = 1 ∧ (0 ≤ v ∧ v ≤ 19)) ∨ (z = 0 ∧ ¬ (0 ≤ v ∧ v ≤ 19))) ∧ w = w1
theorem hdS_X5_isPlot : yX5_isPlot.cls ≠ "java/lang/invoke/MethodHandle" ∧ yX5_isPlot.cls ≠ "java/lang/invoke/VarHandle" ∧ (parseMethodDescriptor yX5_isPlot.desc).map (fun d => d.parameters.length) = some 1 := by decide +kernel
set_option maxHeartbeats 4000000 in
set_option maxRecDepth 100000 in
theorem c_X5_isPlot (l : Launch) (G : gG) (w : gW) (v : Int) (rv : inR v) : mI l G yX5_isPlot (wU yX5_isPlot cX5_isPlot 1 (some .boolean)) (rmL 1 22) [.int (iI v)] w (po_X5_isPlot w v) := by
  refine mI_of (by decide +kernel) (Nat.le_of_ble_eq_true rfl) (fun p e s m args below meth c ls C0 hW hl => ?_)
  have hl : lv_has ls 1 [(0, .int (iI v))] := hl
  have hx := C0.hx
  have hb := C0.hb
  refine lv_iload_n hx hb dX5_isPlot_0 rfl (lv_at hl 0 rfl) ?_
  refine r_iconst hx hb dX5_isPlot_1 ?_
  refine r_bipush hx hb dX5_isPlot_2 (by decide) ?_
  refine k_Si (host := "") C0 hW (As := [.int (iI v), .int (iI 0), .int (iI 19)]) (c_X5_isWithin l G w v 0 19 rv ⟨by omega, by omega⟩ ⟨by omega, by omega⟩) km_X5_58 ks_X5_isWithin kn_X5 kc_X5_isWithin rfl hdS_X5_isWithin ⟨by decide, by decide⟩ rfl hl.1 rfl (Nat.le_of_ble_eq_true rfl) dX5_isPlot_4 (fun z1 w1 H1 locs1 rz1 hp1 hW => ?_)
  obtain ⟨hp1, hq1⟩ := hp1
  subst hq1
  have rz1a := rz1.1
  have rz1b := rz1.2
  rcases hp1 with ⟨e1, hp1⟩ | ⟨e1, hp1⟩
  · subst e1
    exact r_zret C0 hW (by first | exact Or.inl rfl | exact Or.inr rfl | omega) (⟨by omega, rfl⟩) dX5_isPlot_7
  · subst e1
    exact r_zret C0 hW (by first | exact Or.inl rfl | exact Or.inr rfl | omega) (⟨by omega, rfl⟩) dX5_isPlot_7

/-- X5_isWeather: its end -/
def po_X5_isWeather (w : gW) (v : Int) : Int → gW → Prop := fun z w1 => ((z = 1 ∧ (0 ≤ v ∧ v ≤ 2)) ∨ (z = 0 ∧ ¬ (0 ≤ v ∧ v ≤ 2))) ∧ w = w1
theorem hdS_X5_isWeather : yX5_isWeather.cls ≠ "java/lang/invoke/MethodHandle" ∧ yX5_isWeather.cls ≠ "java/lang/invoke/VarHandle" ∧ (parseMethodDescriptor yX5_isWeather.desc).map (fun d => d.parameters.length) = some 1 := by decide +kernel
set_option maxHeartbeats 4000000 in
set_option maxRecDepth 100000 in
theorem c_X5_isWeather (l : Launch) (G : gG) (w : gW) (v : Int) (rv : inR v) : mI l G yX5_isWeather (wU yX5_isWeather cX5_isWeather 1 (some .boolean)) (rmL 1 22) [.int (iI v)] w (po_X5_isWeather w v) := by
  refine mI_of (by decide +kernel) (Nat.le_of_ble_eq_true rfl) (fun p e s m args below meth c ls C0 hW hl => ?_)
  have hl : lv_has ls 1 [(0, .int (iI v))] := hl
  have hx := C0.hx
  have hb := C0.hb
  refine lv_iload_n hx hb dX5_isWeather_0 rfl (lv_at hl 0 rfl) ?_
  refine r_iconst hx hb dX5_isWeather_1 ?_
  refine r_iconst hx hb dX5_isWeather_2 ?_
  refine k_Si (host := "") C0 hW (As := [.int (iI v), .int (iI 0), .int (iI 2)]) (c_X5_isWithin l G w v 0 2 rv ⟨by omega, by omega⟩ ⟨by omega, by omega⟩) km_X5_58 ks_X5_isWithin kn_X5 kc_X5_isWithin rfl hdS_X5_isWithin ⟨by decide, by decide⟩ rfl hl.1 rfl (Nat.le_of_ble_eq_true rfl) dX5_isWeather_3 (fun z1 w1 H1 locs1 rz1 hp1 hW => ?_)
  obtain ⟨hp1, hq1⟩ := hp1
  subst hq1
  have rz1a := rz1.1
  have rz1b := rz1.2
  rcases hp1 with ⟨e1, hp1⟩ | ⟨e1, hp1⟩
  · subst e1
    exact r_zret C0 hW (by first | exact Or.inl rfl | exact Or.inr rfl | omega) (⟨by omega, rfl⟩) dX5_isWeather_6
  · subst e1
    exact r_zret C0 hW (by first | exact Or.inl rfl | exact Or.inr rfl | omega) (⟨by omega, rfl⟩) dX5_isWeather_6

/-- X5_isSettingValue: its end -/
def po_X5_isSettingValue (w : gW) (v : Int) (x : Int) : Int → gW → Prop := fun z w1 => ((z = 1 ∧ ((v = 0 ∧ 1 ≤ x ∧ x ≤ 6) ∨ (v = 1 ∧ 0 ≤ x ∧ x ≤ 1))) ∨ (z = 0 ∧ ¬ ((v = 0 ∧ 1 ≤ x ∧ x ≤ 6) ∨ (v = 1 ∧ 0 ≤ x ∧ x ≤ 1)))) ∧ w = w1
theorem hdS_X5_isSettingValue : yX5_isSettingValue.cls ≠ "java/lang/invoke/MethodHandle" ∧ yX5_isSettingValue.cls ≠ "java/lang/invoke/VarHandle" ∧ (parseMethodDescriptor yX5_isSettingValue.desc).map (fun d => d.parameters.length) = some 2 := by decide +kernel
set_option maxHeartbeats 4000000 in
set_option maxRecDepth 100000 in
theorem c_X5_isSettingValue (l : Launch) (G : gG) (w : gW) (v : Int) (x : Int) (rv : inR v) (rx : inR x) : mI l G yX5_isSettingValue (wU yX5_isSettingValue cX5_isSettingValue 2 (some .boolean)) (rmL 1 22) [.int (iI v), .int (iI x)] w (po_X5_isSettingValue w v x) := by
  refine mI_of (by decide +kernel) (Nat.le_of_ble_eq_true rfl) (fun p e s m args below meth c ls C0 hW hl => ?_)
  have hl : lv_has ls 2 [(0, .int (iI v)), (1, .int (iI x))] := hl
  have hx := C0.hx
  have hb := C0.hb
  refine lv_iload_n hx hb dX5_isSettingValue_0 rfl (lv_at hl 0 rfl) ?_
  refine r_if_ne (tgt := 12) hx hb rv dX5_isSettingValue_1 (by decide) (fun c1 => ?_) (fun c1 => ?_)
  · refine lv_iload_n hx hb dX5_isSettingValue_12 rfl (lv_at hl 0 rfl) ?_
    refine r_iconst hx hb dX5_isSettingValue_13 ?_
    refine r_icmp_ne (tgt := 30) hx hb rv ⟨by omega, by omega⟩ dX5_isSettingValue_14 (by decide) (fun c2 => ?_) (fun c2 => ?_)
    · refine r_iconst hx hb dX5_isSettingValue_30 ?_
      exact r_zret C0 hW (by first | exact Or.inl rfl | exact Or.inr rfl | omega) (⟨by omega, rfl⟩) dX5_isSettingValue_31
    · refine lv_iload_n hx hb dX5_isSettingValue_17 rfl (lv_at hl 1 rfl) ?_
      refine r_iconst hx hb dX5_isSettingValue_18 ?_
      refine r_iconst hx hb dX5_isSettingValue_19 ?_
      refine k_Si (host := "") C0 hW (As := [.int (iI x), .int (iI 0), .int (iI 1)]) (c_X5_isWithin l G w x 0 1 rx ⟨by omega, by omega⟩ ⟨by omega, by omega⟩) km_X5_58 ks_X5_isWithin kn_X5 kc_X5_isWithin rfl hdS_X5_isWithin ⟨by decide, by decide⟩ rfl hl.1 rfl (Nat.le_of_ble_eq_true rfl) dX5_isSettingValue_20 (fun z3 w3 H1 locs1 rz3 hp3 hW => ?_)
      obtain ⟨hp3, hq3⟩ := hp3
      subst hq3
      have rz3a := rz3.1
      have rz3b := rz3.2
      rcases hp3 with ⟨e3, hp3⟩ | ⟨e3, hp3⟩
      · subst e3
        refine r_if_eq (tgt := 30) hx hb ⟨by omega, by omega⟩ dX5_isSettingValue_23 (by decide) (fun q => absurd q (by decide)) (fun _ => ?_)
        refine r_iconst hx hb dX5_isSettingValue_26 ?_
        refine lv_goto (tgt := 31) hx hb dX5_isSettingValue_27 (by decide) ?_
        exact r_zret C0 hW (by first | exact Or.inl rfl | exact Or.inr rfl | omega) (⟨by omega, rfl⟩) dX5_isSettingValue_31
      · subst e3
        refine r_if_eq (tgt := 30) hx hb ⟨by omega, by omega⟩ dX5_isSettingValue_23 (by decide) (fun _ => ?_) (fun q => absurd q (by decide))
        refine r_iconst hx hb dX5_isSettingValue_30 ?_
        exact r_zret C0 hW (by first | exact Or.inl rfl | exact Or.inr rfl | omega) (⟨by omega, rfl⟩) dX5_isSettingValue_31
  · refine lv_iload_n hx hb dX5_isSettingValue_4 rfl (lv_at hl 1 rfl) ?_
    refine r_iconst hx hb dX5_isSettingValue_5 ?_
    refine r_bipush hx hb dX5_isSettingValue_6 (by decide) ?_
    refine k_Si (host := "") C0 hW (As := [.int (iI x), .int (iI 1), .int (iI 6)]) (c_X5_isWithin l G w x 1 6 rx ⟨by omega, by omega⟩ ⟨by omega, by omega⟩) km_X5_58 ks_X5_isWithin kn_X5 kc_X5_isWithin rfl hdS_X5_isWithin ⟨by decide, by decide⟩ rfl hl.1 rfl (Nat.le_of_ble_eq_true rfl) dX5_isSettingValue_8 (fun z4 w4 H1 locs1 rz4 hp4 hW => ?_)
    obtain ⟨hp4, hq4⟩ := hp4
    subst hq4
    have rz4a := rz4.1
    have rz4b := rz4.2
    rcases hp4 with ⟨e4, hp4⟩ | ⟨e4, hp4⟩
    · subst e4
      exact r_zret C0 hW (by first | exact Or.inl rfl | exact Or.inr rfl | omega) (⟨by omega, rfl⟩) dX5_isSettingValue_11
    · subst e4
      exact r_zret C0 hW (by first | exact Or.inl rfl | exact Or.inr rfl | omega) (⟨by omega, rfl⟩) dX5_isSettingValue_11

/-- X5_oneIf: its end -/
def po_X5_oneIf (w : gW) (v : Int) : Int → gW → Prop := fun z w1 => ((z = 1 ∧ ¬ v = 0) ∨ (z = 0 ∧ v = 0)) ∧ w = w1
theorem hdS_X5_oneIf : yX5_oneIf.cls ≠ "java/lang/invoke/MethodHandle" ∧ yX5_oneIf.cls ≠ "java/lang/invoke/VarHandle" ∧ (parseMethodDescriptor yX5_oneIf.desc).map (fun d => d.parameters.length) = some 1 := by decide +kernel
set_option maxHeartbeats 4000000 in
set_option maxRecDepth 100000 in
theorem c_X5_oneIf (l : Launch) (G : gG) (w : gW) (v : Int) (rv : inR v) : mI l G yX5_oneIf (wU yX5_oneIf cX5_oneIf 1 (some .int)) (rmL 0 0) [.int (iI v)] w (po_X5_oneIf w v) := by
  refine mI_of (by decide +kernel) (Nat.le_of_ble_eq_true rfl) (fun p e s m args below meth c ls C0 hW hl => ?_)
  have hl : lv_has ls 1 [(0, .int (iI v))] := hl
  have hx := C0.hx
  have hb := C0.hb
  refine lv_iload_n hx hb dX5_oneIf_0 rfl (lv_at hl 0 rfl) ?_
  refine r_if_eq (tgt := 8) hx hb rv dX5_oneIf_1 (by decide) (fun c1 => ?_) (fun c1 => ?_)
  · refine r_iconst hx hb dX5_oneIf_8 ?_
    exact r_iret C0 hW ⟨by omega, by omega⟩ (⟨by omega, rfl⟩) dX5_oneIf_9
  · refine r_iconst hx hb dX5_oneIf_4 ?_
    refine lv_goto (tgt := 9) hx hb dX5_oneIf_5 (by decide) ?_
    exact r_iret C0 hW ⟨by omega, by omega⟩ (⟨by omega, rfl⟩) dX5_oneIf_9

/-- X4_hasNumberLeft: its end -/
def po_X4_hasNumberLeft (w : gW) (j : Nat) : Int → gW → Prop := fun z w1 => ((z = 1 ∧ gN (w j) 7 6 < 120) ∨ (z = 0 ∧ ¬ gN (w j) 7 6 < 120)) ∧ w = w1
theorem hdV_X4_hasNumberLeft : yX4_hasNumberLeft.cls = RX4 ∧ yX4_hasNumberLeft.cls ≠ "java/lang/invoke/MethodHandle" ∧ yX4_hasNumberLeft.cls ≠ "java/lang/invoke/VarHandle" ∧ (parseMethodDescriptor yX4_hasNumberLeft.desc).map (fun d => d.parameters.length) = some 0 := by decide +kernel
set_option maxHeartbeats 4000000 in
set_option maxRecDepth 100000 in
theorem c_X4_hasNumberLeft (l : Launch) (G : gG) (w : gW) {j : Nat} (hj : ms j) (hwf : wf (w j)) : mI l G yX4_hasNumberLeft (wU yX4_hasNumberLeft cX4_hasNumberLeft 1 (some .boolean)) (rmL 0 0) [.ref (ad G j 7)] w (po_X4_hasNumberLeft w j) := by
  refine mI_of (by decide +kernel) (Nat.le_of_ble_eq_true rfl) (fun p e s m args below meth c ls C0 hW hl => ?_)
  have hl : lv_has ls 1 [(0, .ref (ad G j 7))] := hl
  have hx := C0.hx
  have hb := C0.hb
  obtain ⟨⟨hs1, hs2⟩, -⟩ := id hwf
  refine lv_aload_n hx hb dX4_hasNumberLeft_0 rfl (lv_at hl 0 rfl) ?_
  refine r_gI C0 hW (ms_lt hj 7 (by decide)) (ceX_m hj G 7 _ _) rfl hiX4 (k := 6) (by decide) kf_X4_39 rfl rfl rfl dX4_hasNumberLeft_1 (fun z1 (hz1 : z1 = gN (w j) 7 6) rz1 => ?_)
  have rz1a := rz1.1
  have rz1b := rz1.2
  refine r_bipush hx hb dX4_hasNumberLeft_4 (by decide) ?_
  refine r_icmp_ge (tgt := 13) hx hb rz1 ⟨by omega, by omega⟩ dX4_hasNumberLeft_6 (by decide) (fun c2 => ?_) (fun c2 => ?_)
  · refine r_iconst hx hb dX4_hasNumberLeft_13 ?_
    exact r_zret C0 hW (by first | exact Or.inl rfl | exact Or.inr rfl | omega) (⟨by omega, rfl⟩) dX4_hasNumberLeft_14
  · refine r_iconst hx hb dX4_hasNumberLeft_9 ?_
    refine lv_goto (tgt := 14) hx hb dX4_hasNumberLeft_10 (by decide) ?_
    exact r_zret C0 hW (by first | exact Or.inl rfl | exact Or.inr rfl | omega) (⟨by omega, rfl⟩) dX4_hasNumberLeft_14

/-- X4_end: its end -/
def po_X4_end (w : gW) (j : Nat) : Int → gW → Prop := fun z w1 => (z = gN (w j) 7 6) ∧ w = w1
theorem hdV_X4_end : yX4_end.cls = RX4 ∧ yX4_end.cls ≠ "java/lang/invoke/MethodHandle" ∧ yX4_end.cls ≠ "java/lang/invoke/VarHandle" ∧ (parseMethodDescriptor yX4_end.desc).map (fun d => d.parameters.length) = some 0 := by decide +kernel
set_option maxHeartbeats 4000000 in
set_option maxRecDepth 100000 in
theorem c_X4_end (l : Launch) (G : gG) (w : gW) {j : Nat} (hj : ms j) (hwf : wf (w j)) : mI l G yX4_end (wU yX4_end cX4_end 1 (some .int)) (rmL 1 14) [.ref (ad G j 7)] w (po_X4_end w j) := by
  refine mI_of (by decide +kernel) (Nat.le_of_ble_eq_true rfl) (fun p e s m args below meth c ls C0 hW hl => ?_)
  have hl : lv_has ls 1 [(0, .ref (ad G j 7))] := hl
  have hx := C0.hx
  have hb := C0.hb
  obtain ⟨⟨hs1, hs2⟩, -⟩ := id hwf
  refine lv_aload_n hx hb dX4_end_0 rfl (lv_at hl 0 rfl) ?_
  refine r_gI C0 hW (ms_lt hj 7 (by decide)) (ceX_m hj G 7 _ _) rfl hiX4 (k := 6) (by decide) kf_X4_39 rfl rfl rfl dX4_end_1 (fun z1 (hz1 : z1 = gN (w j) 7 6) rz1 => ?_)
  have rz1a := rz1.1
  have rz1b := rz1.2
  refine r_bipush hx hb dX4_end_4 (by decide) ?_
  refine r_min C0 rz1 ⟨by omega, by omega⟩ km_X4_43 ks_J9_min_7cf53 kn_J9 kc_min rfl hl.1 (by decide) (Nat.le_of_ble_eq_true rfl) dX4_end_6 ?_
  exact r_iret C0 hW ⟨by omega, by omega⟩ (⟨by omega, rfl⟩) dX4_end_9

/-- X4_isLying: its end -/
def po_X4_isLying (w : gW) (j : Nat) (r : Int) : Int → gW → Prop := fun z w1 => ((z = 1 ∧ lyi (w j) r) ∨ (z = 0 ∧ ¬ lyi (w j) r)) ∧ w = w1
theorem hdV_X4_isLying : yX4_isLying.cls = RX4 ∧ yX4_isLying.cls ≠ "java/lang/invoke/MethodHandle" ∧ yX4_isLying.cls ≠ "java/lang/invoke/VarHandle" ∧ (parseMethodDescriptor yX4_isLying.desc).map (fun d => d.parameters.length) = some 1 := by decide +kernel
set_option maxHeartbeats 4000000 in
set_option maxRecDepth 100000 in
theorem c_X4_isLying (l : Launch) (G : gG) (w : gW) {j : Nat} (hj : ms j) (hwf : wf (w j)) (r : Int) (rr : inR r) : mI l G yX4_isLying (wU yX4_isLying cX4_isLying 2 (some .boolean)) (rmL 2 34) [.ref (ad G j 7), .int (iI r)] w (po_X4_isLying w j r) := by
  refine mI_of (by decide +kernel) (Nat.le_of_ble_eq_true rfl) (fun p e s m args below meth c ls C0 hW hl => ?_)
  have hl : lv_has ls 2 [(0, .ref (ad G j 7)), (1, .int (iI r))] := hl
  have hx := C0.hx
  have hb := C0.hb
  obtain ⟨⟨hs1, hs2⟩, -⟩ := id hwf
  refine lv_iload_n hx hb dX4_isLying_0 rfl (lv_at hl 1 rfl) ?_
  refine r_iconst hx hb dX4_isLying_1 ?_
  refine lv_aload_n hx hb dX4_isLying_2 rfl (lv_at hl 0 rfl) ?_
  refine k_Vi (j := j) (k0 := 7) C0 hW (c_X4_end l G w hj hwf) km_X4_53 ki_X4_end ke_X4_end kn_X4 kc_X4_end rfl hdV_X4_end ⟨by decide, by decide⟩ (ms_lt hj 7 (by decide)) (ceX_m hj G 7 _ _) rfl rfl hl.1 rfl (Nat.le_of_ble_eq_true rfl) dX4_isLying_3 (fun z1 w1 H1 locs1 rz1 hp1 hW => ?_)
  obtain ⟨hp1, hq1⟩ := hp1
  subst hq1
  have rz1a := rz1.1
  have rz1b := rz1.2
  refine r_iconst hx hb dX4_isLying_6 ?_
  refine r_isub hx hb dX4_isLying_7 ?_
  refine k_Ni (own := "") C0 hW (As := [.int (iI r), .int (iI 0), .int (iI (z1 - 1))]) (c_X5_isWithin l G w r 0 (z1 - 1) rr ⟨by omega, by omega⟩ ⟨by omega, by omega⟩) C0.nst.2.2.2.2.2.1 ks_X5_isWithin kn_X5 kc_X5_isWithin hdS_X5_isWithin ⟨by decide, by decide⟩ rfl hl.1 rfl (Nat.le_of_ble_eq_true rfl) dX4_isLying_8 (fun z2 w2 H1 locs1 rz2 hp2 hW => ?_)
  obtain ⟨hp2, hq2⟩ := hp2
  subst hq2
  have rz2a := rz2.1
  have rz2b := rz2.2
  rcases hp2 with ⟨e2, hp2⟩ | ⟨e2, hp2⟩
  · subst e2
    refine r_if_eq (tgt := 27) hx hb ⟨by omega, by omega⟩ dX4_isLying_11 (by decide) (fun q => absurd q (by decide)) (fun _ => ?_)
    refine lv_aload_n hx hb dX4_isLying_14 rfl (lv_at hl 0 rfl) ?_
    refine r_gR C0 hW (ms_lt hj 7 (by decide)) (ceX_m hj G 7 _ _) rfl hiX4 (k := 5) (by decide) kf_X4_28 rfl rfl rfl dX4_isLying_15 ?_
    refine lv_iload_n hx hb dX4_isLying_18 rfl (lv_at hl 1 rfl) ?_
    refine r_zld C0 hW (ms_lt hj 13 (by decide)) (ceX_m hj G 13 _ _) (n := 120) (by omega) (by omega) (by omega) dX4_isLying_19 (fun z3 (hz3 : z3 = gA (w j) 13 r) rz3 => ?_)
    have rz3a := rz3.1
    have rz3b := rz3.2
    refine r_if_eq (tgt := 27) hx hb rz3 dX4_isLying_20 (by decide) (fun c4 => ?_) (fun c4 => ?_)
    · refine r_iconst hx hb dX4_isLying_27 ?_
      exact r_zret C0 hW (by first | exact Or.inl rfl | exact Or.inr rfl | omega) (⟨by unfold lyi; omega, rfl⟩) dX4_isLying_28
    · refine r_iconst hx hb dX4_isLying_23 ?_
      refine lv_goto (tgt := 28) hx hb dX4_isLying_24 (by decide) ?_
      exact r_zret C0 hW (by first | exact Or.inl rfl | exact Or.inr rfl | omega) (⟨by unfold lyi; omega, rfl⟩) dX4_isLying_28
  · subst e2
    refine r_if_eq (tgt := 27) hx hb ⟨by omega, by omega⟩ dX4_isLying_11 (by decide) (fun _ => ?_) (fun q => absurd q (by decide))
    refine r_iconst hx hb dX4_isLying_27 ?_
    exact r_zret C0 hW (by first | exact Or.inl rfl | exact Or.inr rfl | omega) (⟨by unfold lyi; omega, rfl⟩) dX4_isLying_28

/-- X4_isLyingOf: its end -/
def po_X4_isLyingOf (w : gW) (j : Nat) (r : Int) (co : Int) : Int → gW → Prop := fun z w1 => ((z = 1 ∧ pOf (w j) co r) ∨ (z = 0 ∧ ¬ pOf (w j) co r)) ∧ w = w1
theorem hdV_X4_isLyingOf : yX4_isLyingOf.cls = RX4 ∧ yX4_isLyingOf.cls ≠ "java/lang/invoke/MethodHandle" ∧ yX4_isLyingOf.cls ≠ "java/lang/invoke/VarHandle" ∧ (parseMethodDescriptor yX4_isLyingOf.desc).map (fun d => d.parameters.length) = some 2 := by decide +kernel
set_option maxHeartbeats 4000000 in
set_option maxRecDepth 100000 in
theorem c_X4_isLyingOf (l : Launch) (G : gG) (w : gW) {j : Nat} (hj : ms j) (hwf : wf (w j)) (r : Int) (co : Int) (rr : inR r) (rco : inR co) : mI l G yX4_isLyingOf (wU yX4_isLyingOf cX4_isLyingOf 3 (some .boolean)) (rmL 3 55) [.ref (ad G j 7), .int (iI r), .int (iI co)] w (po_X4_isLyingOf w j r co) := by
  refine mI_of (by decide +kernel) (Nat.le_of_ble_eq_true rfl) (fun p e s m args below meth c ls C0 hW hl => ?_)
  have hl : lv_has ls 3 [(0, .ref (ad G j 7)), (1, .int (iI r)), (2, .int (iI co))] := hl
  have hx := C0.hx
  have hb := C0.hb
  obtain ⟨⟨hs1, hs2⟩, -⟩ := id hwf
  refine lv_aload_n hx hb dX4_isLyingOf_0 rfl (lv_at hl 0 rfl) ?_
  refine lv_iload_n hx hb dX4_isLyingOf_1 rfl (lv_at hl 1 rfl) ?_
  refine k_Vi (j := j) (k0 := 7) C0 hW (c_X4_isLying l G w hj hwf r rr) km_X4_61 ki_X4_isLying ke_X4_isLying kn_X4 kc_X4_isLying rfl hdV_X4_isLying ⟨by decide, by decide⟩ (ms_lt hj 7 (by decide)) (ceX_m hj G 7 _ _) rfl rfl hl.1 rfl (Nat.le_of_ble_eq_true rfl) dX4_isLyingOf_2 (fun z1 w1 H1 locs1 rz1 hp1 hW => ?_)
  obtain ⟨hp1, hq1⟩ := hp1
  subst hq1
  have rz1a := rz1.1
  have rz1b := rz1.2
  rcases hp1 with ⟨e1, hp1⟩ | ⟨e1, hp1⟩
  · subst e1
    obtain ⟨hp11, hp12, hp13⟩ := id hp1
    refine r_if_eq (tgt := 22) hx hb ⟨by omega, by omega⟩ dX4_isLyingOf_5 (by decide) (fun q => absurd q (by decide)) (fun _ => ?_)
    refine lv_aload_n hx hb dX4_isLyingOf_8 rfl (lv_at hl 0 rfl) ?_
    refine r_gR C0 hW (ms_lt hj 7 (by decide)) (ceX_m hj G 7 _ _) rfl hiX4 (k := 0) (by decide) kf_X4_9 rfl rfl rfl dX4_isLyingOf_9 ?_
    refine lv_iload_n hx hb dX4_isLyingOf_12 rfl (lv_at hl 1 rfl) ?_
    refine r_ild C0 hW (ms_lt hj 8 (by decide)) (ceX_m hj G 8 _ _) (n := 120) (by omega) (by omega) (by omega) dX4_isLyingOf_13 (fun z2 (hz2 : z2 = gA (w j) 8 r) rz2 => ?_)
    have rz2a := rz2.1
    have rz2b := rz2.2
    refine lv_iload_n hx hb dX4_isLyingOf_14 rfl (lv_at hl 2 rfl) ?_
    refine r_icmp_ne (tgt := 22) hx hb rz2 rco dX4_isLyingOf_15 (by decide) (fun c3 => ?_) (fun c3 => ?_)
    · refine r_iconst hx hb dX4_isLyingOf_22 ?_
      exact r_zret C0 hW (by first | exact Or.inl rfl | exact Or.inr rfl | omega) (⟨by unfold pOf lyi at *; omega, rfl⟩) dX4_isLyingOf_23
    · refine r_iconst hx hb dX4_isLyingOf_18 ?_
      refine lv_goto (tgt := 23) hx hb dX4_isLyingOf_19 (by decide) ?_
      exact r_zret C0 hW (by first | exact Or.inl rfl | exact Or.inr rfl | omega) (⟨by unfold pOf lyi at *; omega, rfl⟩) dX4_isLyingOf_23
  · subst e1
    refine r_if_eq (tgt := 22) hx hb ⟨by omega, by omega⟩ dX4_isLyingOf_5 (by decide) (fun _ => ?_) (fun q => absurd q (by decide))
    refine r_iconst hx hb dX4_isLyingOf_22 ?_
    exact r_zret C0 hW (by first | exact Or.inl rfl | exact Or.inr rfl | omega) (⟨by unfold pOf lyi at *; omega, rfl⟩) dX4_isLyingOf_23

/-- X4_isStacked: its end -/
def po_X4_isStacked (w : gW) (j : Nat) (r : Int) : Int → gW → Prop := fun z w1 => ((z = 1 ∧ pSt (w j) r) ∨ (z = 0 ∧ ¬ pSt (w j) r)) ∧ w = w1
theorem hdV_X4_isStacked : yX4_isStacked.cls = RX4 ∧ yX4_isStacked.cls ≠ "java/lang/invoke/MethodHandle" ∧ yX4_isStacked.cls ≠ "java/lang/invoke/VarHandle" ∧ (parseMethodDescriptor yX4_isStacked.desc).map (fun d => d.parameters.length) = some 1 := by decide +kernel
set_option maxHeartbeats 4000000 in
set_option maxRecDepth 100000 in
theorem c_X4_isStacked (l : Launch) (G : gG) (w : gW) {j : Nat} (hj : ms j) (hwf : wf (w j)) (r : Int) (rr : inR r) : mI l G yX4_isStacked (wU yX4_isStacked cX4_isStacked 2 (some .boolean)) (rmL 3 55) [.ref (ad G j 7), .int (iI r)] w (po_X4_isStacked w j r) := by
  refine mI_of (by decide +kernel) (Nat.le_of_ble_eq_true rfl) (fun p e s m args below meth c ls C0 hW hl => ?_)
  have hl : lv_has ls 2 [(0, .ref (ad G j 7)), (1, .int (iI r))] := hl
  have hx := C0.hx
  have hb := C0.hb
  obtain ⟨⟨hs1, hs2⟩, -⟩ := id hwf
  refine lv_aload_n hx hb dX4_isStacked_0 rfl (lv_at hl 0 rfl) ?_
  refine lv_iload_n hx hb dX4_isStacked_1 rfl (lv_at hl 1 rfl) ?_
  refine k_Vi (j := j) (k0 := 7) C0 hW (c_X4_isLying l G w hj hwf r rr) km_X4_61 ki_X4_isLying ke_X4_isLying kn_X4 kc_X4_isLying rfl hdV_X4_isLying ⟨by decide, by decide⟩ (ms_lt hj 7 (by decide)) (ceX_m hj G 7 _ _) rfl rfl hl.1 rfl (Nat.le_of_ble_eq_true rfl) dX4_isStacked_2 (fun z1 w1 H1 locs1 rz1 hp1 hW => ?_)
  obtain ⟨hp1, hq1⟩ := hp1
  subst hq1
  have rz1a := rz1.1
  have rz1b := rz1.2
  rcases hp1 with ⟨e1, hp1⟩ | ⟨e1, hp1⟩
  · subst e1
    obtain ⟨hp11, hp12, hp13⟩ := id hp1
    refine r_if_eq (tgt := 21) hx hb ⟨by omega, by omega⟩ dX4_isStacked_5 (by decide) (fun q => absurd q (by decide)) (fun _ => ?_)
    refine lv_aload_n hx hb dX4_isStacked_8 rfl (lv_at hl 0 rfl) ?_
    refine r_gR C0 hW (ms_lt hj 7 (by decide)) (ceX_m hj G 7 _ _) rfl hiX4 (k := 4) (by decide) kf_X4_25 rfl rfl rfl dX4_isStacked_9 ?_
    refine lv_iload_n hx hb dX4_isStacked_12 rfl (lv_at hl 1 rfl) ?_
    refine r_zld C0 hW (ms_lt hj 12 (by decide)) (ceX_m hj G 12 _ _) (n := 120) (by omega) (by omega) (by omega) dX4_isStacked_13 (fun z2 (hz2 : z2 = gA (w j) 12 r) rz2 => ?_)
    have rz2a := rz2.1
    have rz2b := rz2.2
    refine r_if_eq (tgt := 21) hx hb rz2 dX4_isStacked_14 (by decide) (fun c3 => ?_) (fun c3 => ?_)
    · refine r_iconst hx hb dX4_isStacked_21 ?_
      exact r_zret C0 hW (by first | exact Or.inl rfl | exact Or.inr rfl | omega) (⟨by unfold pSt lyi at *; omega, rfl⟩) dX4_isStacked_22
    · refine r_iconst hx hb dX4_isStacked_17 ?_
      refine lv_goto (tgt := 22) hx hb dX4_isStacked_18 (by decide) ?_
      exact r_zret C0 hW (by first | exact Or.inl rfl | exact Or.inr rfl | omega) (⟨by unfold pSt lyi at *; omega, rfl⟩) dX4_isStacked_22
  · subst e1
    refine r_if_eq (tgt := 21) hx hb ⟨by omega, by omega⟩ dX4_isStacked_5 (by decide) (fun _ => ?_) (fun q => absurd q (by decide))
    refine r_iconst hx hb dX4_isStacked_21 ?_
    exact r_zret C0 hW (by first | exact Or.inl rfl | exact Or.inr rfl | omega) (⟨by unfold pSt lyi at *; omega, rfl⟩) dX4_isStacked_22

/-- X4_isDry: its end -/
def po_X4_isDry (w : gW) (j : Nat) (r : Int) : Int → gW → Prop := fun z w1 => ((z = 1 ∧ pDr (w j) r) ∨ (z = 0 ∧ ¬ pDr (w j) r)) ∧ w = w1
theorem hdV_X4_isDry : yX4_isDry.cls = RX4 ∧ yX4_isDry.cls ≠ "java/lang/invoke/MethodHandle" ∧ yX4_isDry.cls ≠ "java/lang/invoke/VarHandle" ∧ (parseMethodDescriptor yX4_isDry.desc).map (fun d => d.parameters.length) = some 1 := by decide +kernel
set_option maxHeartbeats 4000000 in
set_option maxRecDepth 100000 in
theorem c_X4_isDry (l : Launch) (G : gG) (w : gW) {j : Nat} (hj : ms j) (hwf : wf (w j)) (r : Int) (rr : inR r) : mI l G yX4_isDry (wU yX4_isDry cX4_isDry 2 (some .boolean)) (rmL 3 55) [.ref (ad G j 7), .int (iI r)] w (po_X4_isDry w j r) := by
  refine mI_of (by decide +kernel) (Nat.le_of_ble_eq_true rfl) (fun p e s m args below meth c ls C0 hW hl => ?_)
  have hl : lv_has ls 2 [(0, .ref (ad G j 7)), (1, .int (iI r))] := hl
  have hx := C0.hx
  have hb := C0.hb
  obtain ⟨⟨hs1, hs2⟩, -⟩ := id hwf
  refine lv_aload_n hx hb dX4_isDry_0 rfl (lv_at hl 0 rfl) ?_
  refine lv_iload_n hx hb dX4_isDry_1 rfl (lv_at hl 1 rfl) ?_
  refine k_Vi (j := j) (k0 := 7) C0 hW (c_X4_isLying l G w hj hwf r rr) km_X4_61 ki_X4_isLying ke_X4_isLying kn_X4 kc_X4_isLying rfl hdV_X4_isLying ⟨by decide, by decide⟩ (ms_lt hj 7 (by decide)) (ceX_m hj G 7 _ _) rfl rfl hl.1 rfl (Nat.le_of_ble_eq_true rfl) dX4_isDry_2 (fun z1 w1 H1 locs1 rz1 hp1 hW => ?_)
  obtain ⟨hp1, hq1⟩ := hp1
  subst hq1
  have rz1a := rz1.1
  have rz1b := rz1.2
  rcases hp1 with ⟨e1, hp1⟩ | ⟨e1, hp1⟩
  · subst e1
    obtain ⟨hp11, hp12, hp13⟩ := id hp1
    refine r_if_eq (tgt := 23) hx hb ⟨by omega, by omega⟩ dX4_isDry_5 (by decide) (fun q => absurd q (by decide)) (fun _ => ?_)
    refine lv_aload_n hx hb dX4_isDry_8 rfl (lv_at hl 0 rfl) ?_
    refine r_gR C0 hW (ms_lt hj 7 (by decide)) (ceX_m hj G 7 _ _) rfl hiX4 (k := 2) (by decide) kf_X4_18 rfl rfl rfl dX4_isDry_9 ?_
    refine lv_iload_n hx hb dX4_isDry_12 rfl (lv_at hl 1 rfl) ?_
    refine r_ild C0 hW (ms_lt hj 10 (by decide)) (ceX_m hj G 10 _ _) (n := 120) (by omega) (by omega) (by omega) dX4_isDry_13 (fun z2 (hz2 : z2 = gA (w j) 10 r) rz2 => ?_)
    have rz2a := rz2.1
    have rz2b := rz2.2
    refine r_bipush hx hb dX4_isDry_14 (by decide) ?_
    refine r_icmp_gt (tgt := 23) hx hb rz2 ⟨by omega, by omega⟩ dX4_isDry_16 (by decide) (fun c3 => ?_) (fun c3 => ?_)
    · refine r_iconst hx hb dX4_isDry_23 ?_
      exact r_zret C0 hW (by first | exact Or.inl rfl | exact Or.inr rfl | omega) (⟨by unfold pDr lyi at *; omega, rfl⟩) dX4_isDry_24
    · refine r_iconst hx hb dX4_isDry_19 ?_
      refine lv_goto (tgt := 24) hx hb dX4_isDry_20 (by decide) ?_
      exact r_zret C0 hW (by first | exact Or.inl rfl | exact Or.inr rfl | omega) (⟨by unfold pDr lyi at *; omega, rfl⟩) dX4_isDry_24
  · subst e1
    refine r_if_eq (tgt := 23) hx hb ⟨by omega, by omega⟩ dX4_isDry_5 (by decide) (fun _ => ?_) (fun q => absurd q (by decide))
    refine r_iconst hx hb dX4_isDry_23 ?_
    exact r_zret C0 hW (by first | exact Or.inl rfl | exact Or.inr rfl | omega) (⟨by unfold pDr lyi at *; omega, rfl⟩) dX4_isDry_24
