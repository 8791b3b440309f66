/-- X6_in: its end -/
def po_X6_in (w : gW) (v : Int) (a : Int) (b : Int) : Int → gW → Prop := fun z w1 => ((z = 1 ∧ (a ≤ v ∧ v ≤ b)) ∨ (z = 0 ∧ ¬ (a ≤ v ∧ v ≤ b))) ∧ w = w1
theorem hdS_X6_in : yX6_in.cls ≠ "java/lang/invoke/MethodHandle" ∧ yX6_in.cls ≠ "java/lang/invoke/VarHandle" ∧ (parseMethodDescriptor yX6_in.desc).map (fun d => d.parameters.length) = some 3 := by decide +kernel
set_option maxHeartbeats 4000000 in
set_option maxRecDepth 100000 in
theorem c_X6_in (l : Launch) (G : gG) (w : gW) (v : Int) (a : Int) (b : Int) (rv : inR v) (ra : inR a) (rb : inR b) : mI l G yX6_in (wU yX6_in cX6_in 3 (some .boolean)) (rmL 0 0) [.int (iI v), .int (iI a), .int (iI b)] w (po_X6_in w v a b) := by
  refine mI_of (by decide +kernel) (Nat.le_of_ble_eq_true rfl) (fun p e s m args below meth c ls C0 hW hl => ?_)
  have hl : lv_has ls 3 [(0, .int (iI v)), (1, .int (iI a)), (2, .int (iI b))] := hl
  have hx := C0.hx
  have hb := C0.hb
  refine lv_iload_n hx hb dX6_in_0 rfl (lv_at hl 0 rfl) ?_
  refine lv_iload_n hx hb dX6_in_1 rfl (lv_at hl 1 rfl) ?_
  refine r_icmp_lt (tgt := 14) hx hb rv ra dX6_in_2 (by decide) (fun c1 => ?_) (fun c1 => ?_)
  · refine r_iconst hx hb dX6_in_14 ?_
    exact r_zret C0 hW (by first | exact Or.inl rfl | exact Or.inr rfl | omega) (⟨by omega, rfl⟩) dX6_in_15
  · refine lv_iload_n hx hb dX6_in_5 rfl (lv_at hl 0 rfl) ?_
    refine lv_iload_n hx hb dX6_in_6 rfl (lv_at hl 2 rfl) ?_
    refine r_icmp_gt (tgt := 14) hx hb rv rb dX6_in_7 (by decide) (fun c2 => ?_) (fun c2 => ?_)
    · refine r_iconst hx hb dX6_in_14 ?_
      exact r_zret C0 hW (by first | exact Or.inl rfl | exact Or.inr rfl | omega) (⟨by omega, rfl⟩) dX6_in_15
    · refine r_iconst hx hb dX6_in_10 ?_
      refine lv_goto (tgt := 15) hx hb dX6_in_11 (by decide) ?_
      exact r_zret C0 hW (by first | exact Or.inl rfl | exact Or.inr rfl | omega) (⟨by omega, rfl⟩) dX6_in_15

/-- X6_isCommoner: its end -/
def po_X6_isCommoner (w : gW) (v : Int) : Int → gW → Prop := fun z w1 => ((z = 1 ∧ (0 ≤ v ∧ v ≤ 9)) ∨ (z = 0 ∧ ¬ (0 ≤ v ∧ v ≤ 9))) ∧ w = w1
theorem hdS_X6_isCommoner : yX6_isCommoner.cls ≠ "java/lang/invoke/MethodHandle" ∧ yX6_isCommoner.cls ≠ "java/lang/invoke/VarHandle" ∧ (parseMethodDescriptor yX6_isCommoner.desc).map (fun d => d.parameters.length) = some 1 := by decide +kernel
set_option maxHeartbeats 4000000 in
set_option maxRecDepth 100000 in
theorem c_X6_isCommoner (l : Launch) (G : gG) (w : gW) (v : Int) (rv : inR v) : mI l G yX6_isCommoner (wU yX6_isCommoner cX6_isCommoner 1 (some .boolean)) (rmL 1 22) [.int (iI v)] w (po_X6_isCommoner w v) := by
  refine mI_of (by decide +kernel) (Nat.le_of_ble_eq_true rfl) (fun p e s m args below meth c ls C0 hW hl => ?_)
  have hl : lv_has ls 1 [(0, .int (iI v))] := hl
  have hx := C0.hx
  have hb := C0.hb
  refine lv_iload_n hx hb dX6_isCommoner_0 rfl (lv_at hl 0 rfl) ?_
  refine r_iconst hx hb dX6_isCommoner_1 ?_
  refine r_bipush hx hb dX6_isCommoner_2 (by decide) ?_
  refine k_Si (host := "") C0 hW (As := [.int (iI v), .int (iI 0), .int (iI 9)]) (c_X6_in l G w v 0 9 rv ⟨by omega, by omega⟩ ⟨by omega, by omega⟩) km_X6_32 ks_X6_in kn_X6 kc_X6_in rfl hdS_X6_in ⟨by decide, by decide⟩ rfl hl.1 rfl (Nat.le_of_ble_eq_true rfl) dX6_isCommoner_4 (fun z1 w1 H1 locs1 rz1 hp1 hW => ?_)
  obtain ⟨hp1, hq1⟩ := hp1
  subst hq1
  have rz1a := rz1.1
  have rz1b := rz1.2
  rcases hp1 with ⟨e1, hp1⟩ | ⟨e1, hp1⟩
  · subst e1
    exact r_zret C0 hW (by first | exact Or.inl rfl | exact Or.inr rfl | omega) (⟨by omega, rfl⟩) dX6_isCommoner_7
  · subst e1
    exact r_zret C0 hW (by first | exact Or.inl rfl | exact Or.inr rfl | omega) (⟨by omega, rfl⟩) dX6_isCommoner_7

/-- X6_isPlot: its end -/
def po_X6_isPlot (w : gW) (v : Int) : Int → gW → Prop := fun z w1 => ((z = 1 ∧ (0 ≤ v ∧ v ≤ 19)) ∨ (z = 0 ∧ ¬ (0 ≤ v ∧ v ≤ 19))) ∧ w = w1
theorem hdS_X6_isPlot : yX6_isPlot.cls ≠ "java/lang/invoke/MethodHandle" ∧ yX6_isPlot.cls ≠ "java/lang/invoke/VarHandle" ∧ (parseMethodDescriptor yX6_isPlot.desc).map (fun d => d.parameters.length) = some 1 := by decide +kernel
set_option maxHeartbeats 4000000 in
set_option maxRecDepth 100000 in
theorem c_X6_isPlot (l : Launch) (G : gG) (w : gW) (v : Int) (rv : inR v) : mI l G yX6_isPlot (wU yX6_isPlot cX6_isPlot 1 (some .boolean)) (rmL 1 22) [.int (iI v)] w (po_X6_isPlot w v) := by
  refine mI_of (by decide +kernel) (Nat.le_of_ble_eq_true rfl) (fun p e s m args below meth c ls C0 hW hl => ?_)
  have hl : lv_has ls 1 [(0, .int (iI v))] := hl
  have hx := C0.hx
  have hb := C0.hb
  refine lv_iload_n hx hb dX6_isPlot_0 rfl (lv_at hl 0 rfl) ?_
  refine r_iconst hx hb dX6_isPlot_1 ?_
  refine r_bipush hx hb dX6_isPlot_2 (by decide) ?_
  refine k_Si (host := "") C0 hW (As := [.int (iI v), .int (iI 0), .int (iI 19)]) (c_X6_in l G w v 0 19 rv ⟨by omega, by omega⟩ ⟨by omega, by omega⟩) km_X6_32 ks_X6_in kn_X6 kc_X6_in rfl hdS_X6_in ⟨by decide, by decide⟩ rfl hl.1 rfl (Nat.le_of_ble_eq_true rfl) dX6_isPlot_4 (fun z1 w1 H1 locs1 rz1 hp1 hW => ?_)
  obtain ⟨hp1, hq1⟩ := hp1
  subst hq1
  have rz1a := rz1.1
  have rz1b := rz1.2
  rcases hp1 with ⟨e1, hp1⟩ | ⟨e1, hp1⟩
  · subst e1
    exact r_zret C0 hW (by first | exact Or.inl rfl | exact Or.inr rfl | omega) (⟨by omega, rfl⟩) dX6_isPlot_7
  · subst e1
    exact r_zret C0 hW (by first | exact Or.inl rfl | exact Or.inr rfl | omega) (⟨by omega, rfl⟩) dX6_isPlot_7

/-- X6_drier: its end -/
def po_X6_drier (w : gW) (v : Int) (t : Int) : Int → gW → Prop := fun z w1 => (z = drr v t) ∧ w = w1
theorem hdS_X6_drier : yX6_drier.cls ≠ "java/lang/invoke/MethodHandle" ∧ yX6_drier.cls ≠ "java/lang/invoke/VarHandle" ∧ (parseMethodDescriptor yX6_drier.desc).map (fun d => d.parameters.length) = some 2 := by decide +kernel
set_option maxHeartbeats 4000000 in
set_option maxRecDepth 100000 in
theorem c_X6_drier (l : Launch) (G : gG) (w : gW) (v : Int) (t : Int) (rv : inR v) (rt : inR t) (ht9 : 0 ≤ t ∧ t ≤ 1) : mI l G yX6_drier (wU yX6_drier cX6_drier 2 (some .int)) (rmL 0 0) [.int (iI v), .int (iI t)] w (po_X6_drier w v t) := by
  refine mI_of (by decide +kernel) (Nat.le_of_ble_eq_true rfl) (fun p e s m args below meth c ls C0 hW hl => ?_)
  have hl : lv_has ls 2 [(0, .int (iI v)), (1, .int (iI t))] := hl
  have hx := C0.hx
  have hb := C0.hb
  refine lv_iload_n hx hb dX6_drier_0 rfl (lv_at hl 0 rfl) ?_
  refine r_iconst hx hb dX6_drier_1 ?_
  refine r_icmp_ne (tgt := 10) hx hb rv ⟨by omega, by omega⟩ dX6_drier_2 (by decide) (fun c1 => ?_) (fun c1 => ?_)
  · refine lv_iload_n hx hb dX6_drier_10 rfl (lv_at hl 0 rfl) ?_
    refine r_if_ne (tgt := 19) hx hb rv dX6_drier_11 (by decide) (fun c2 => ?_) (fun c2 => ?_)
    · refine r_iconst hx hb dX6_drier_19 ?_
      refine r_iconst hx hb dX6_drier_20 ?_
      refine lv_iload_n hx hb dX6_drier_21 rfl (lv_at hl 1 rfl) ?_
      refine r_imul hx hb dX6_drier_22 ?_
      refine r_iadd hx hb dX6_drier_23 ?_
      exact r_iret C0 hW ⟨by omega, by omega⟩ (⟨by unfold drr; first | (rw [if_pos (by omega)]) | (rw [if_neg (by omega), if_pos (by omega)]) | (rw [if_neg (by omega), if_neg (by omega)]), rfl⟩) dX6_drier_24
    · refine r_bipush hx hb dX6_drier_14 (by decide) ?_
      refine lv_goto (tgt := 20) hx hb dX6_drier_16 (by decide) ?_
      refine r_iconst hx hb dX6_drier_20 ?_
      refine lv_iload_n hx hb dX6_drier_21 rfl (lv_at hl 1 rfl) ?_
      refine r_imul hx hb dX6_drier_22 ?_
      refine r_iadd hx hb dX6_drier_23 ?_
      exact r_iret C0 hW ⟨by omega, by omega⟩ (⟨by unfold drr; first | (rw [if_pos (by omega)]) | (rw [if_neg (by omega), if_pos (by omega)]) | (rw [if_neg (by omega), if_neg (by omega)]), rfl⟩) dX6_drier_24
  · refine r_bipush hx hb dX6_drier_5 (by decide) ?_
    refine lv_goto (tgt := 24) hx hb dX6_drier_7 (by decide) ?_
    exact r_iret C0 hW ⟨by omega, by omega⟩ (⟨by unfold drr; first | (rw [if_pos (by omega)]) | (rw [if_neg (by omega), if_pos (by omega)]) | (rw [if_neg (by omega), if_neg (by omega)]), rfl⟩) dX6_drier_24

/-- X6_ofCommoner: its end -/
def po_X6_ofCommoner (w : gW) (co : Int) (q : Int) : Int → gW → Prop := fun z w1 => (z = gA (w 10) 1 (11 + 3 * co + q)) ∧ w = w1
theorem hdV_X6_ofCommoner : yX6_ofCommoner.cls = RX6 ∧ yX6_ofCommoner.cls ≠ "java/lang/invoke/MethodHandle" ∧ yX6_ofCommoner.cls ≠ "java/lang/invoke/VarHandle" ∧ (parseMethodDescriptor yX6_ofCommoner.desc).map (fun d => d.parameters.length) = some 2 := by decide +kernel
set_option maxHeartbeats 4000000 in
set_option maxRecDepth 100000 in
theorem c_X6_ofCommoner (l : Launch) (G : gG) (w : gW) (co : Int) (q : Int) (rco : inR co) (rq : inR q) (hix : 0 ≤ 11 + 3 * co + q ∧ 11 + 3 * co + q < 941) : mI l G yX6_ofCommoner (wU yX6_ofCommoner cX6_ofCommoner 3 (some .int)) (rmL 0 0) [.ref (ad G 10 0), .int (iI co), .int (iI q)] w (po_X6_ofCommoner w co q) := by
  refine mI_of (by decide +kernel) (Nat.le_of_ble_eq_true rfl) (fun p e s m args below meth c ls C0 hW hl => ?_)
  have hl : lv_has ls 3 [(0, .ref (ad G 10 0)), (1, .int (iI co)), (2, .int (iI q))] := hl
  have hx := C0.hx
  have hb := C0.hb
  refine lv_aload_n hx hb dX6_ofCommoner_0 rfl (lv_at hl 0 rfl) ?_
  refine r_gR C0 hW (show 10 < 11 ∧ 0 < bs 10 from ⟨by decide, by decide⟩) rfl rfl hiX6 (k := 1) (by decide) kf_X6_7 rfl rfl rfl dX6_ofCommoner_1 ?_
  refine r_bipush hx hb dX6_ofCommoner_4 (by decide) ?_
  refine r_iconst hx hb dX6_ofCommoner_6 ?_
  refine lv_iload_n hx hb dX6_ofCommoner_7 rfl (lv_at hl 1 rfl) ?_
  refine r_imul hx hb dX6_ofCommoner_8 ?_
  refine r_iadd hx hb dX6_ofCommoner_9 ?_
  refine lv_iload_n hx hb dX6_ofCommoner_10 rfl (lv_at hl 2 rfl) ?_
  refine r_iadd hx hb dX6_ofCommoner_11 ?_
  refine r_ild C0 hW (show 10 < 11 ∧ 1 < bs 10 from ⟨by decide, by decide⟩) rfl (n := 941) (by omega) (by omega) (by omega) dX6_ofCommoner_12 (fun z1 (hz1 : z1 = gA (w 10) 1 ((11 + (3 * co)) + q)) rz1 => ?_)
  have rz1a := rz1.1
  have rz1b := rz1.2
  exact r_iret C0 hW rz1 (⟨by omega, rfl⟩) dX6_ofCommoner_13

/-- X6_ofPlot: its end -/
def po_X6_ofPlot (w : gW) (pl : Int) (q : Int) : Int → gW → Prop := fun z w1 => (z = gA (w 10) 1 (41 + 3 * pl + q)) ∧ w = w1
theorem hdV_X6_ofPlot : yX6_ofPlot.cls = RX6 ∧ yX6_ofPlot.cls ≠ "java/lang/invoke/MethodHandle" ∧ yX6_ofPlot.cls ≠ "java/lang/invoke/VarHandle" ∧ (parseMethodDescriptor yX6_ofPlot.desc).map (fun d => d.parameters.length) = some 2 := by decide +kernel
set_option maxHeartbeats 4000000 in
set_option maxRecDepth 100000 in
theorem c_X6_ofPlot (l : Launch) (G : gG) (w : gW) (pl : Int) (q : Int) (rpl : inR pl) (rq : inR q) (hix : 0 ≤ 41 + 3 * pl + q ∧ 41 + 3 * pl + q < 941) : mI l G yX6_ofPlot (wU yX6_ofPlot cX6_ofPlot 3 (some .int)) (rmL 0 0) [.ref (ad G 10 0), .int (iI pl), .int (iI q)] w (po_X6_ofPlot w pl q) := by
  refine mI_of (by decide +kernel) (Nat.le_of_ble_eq_true rfl) (fun p e s m args below meth c ls C0 hW hl => ?_)
  have hl : lv_has ls 3 [(0, .ref (ad G 10 0)), (1, .int (iI pl)), (2, .int (iI q))] := hl
  have hx := C0.hx
  have hb := C0.hb
  refine lv_aload_n hx hb dX6_ofPlot_0 rfl (lv_at hl 0 rfl) ?_
  refine r_gR C0 hW (show 10 < 11 ∧ 0 < bs 10 from ⟨by decide, by decide⟩) rfl rfl hiX6 (k := 1) (by decide) kf_X6_7 rfl rfl rfl dX6_ofPlot_1 ?_
  refine r_bipush hx hb dX6_ofPlot_4 (by decide) ?_
  refine r_iconst hx hb dX6_ofPlot_6 ?_
  refine lv_iload_n hx hb dX6_ofPlot_7 rfl (lv_at hl 1 rfl) ?_
  refine r_imul hx hb dX6_ofPlot_8 ?_
  refine r_iadd hx hb dX6_ofPlot_9 ?_
  refine lv_iload_n hx hb dX6_ofPlot_10 rfl (lv_at hl 2 rfl) ?_
  refine r_iadd hx hb dX6_ofPlot_11 ?_
  refine r_ild C0 hW (show 10 < 11 ∧ 1 < bs 10 from ⟨by decide, by decide⟩) rfl (n := 941) (by omega) (by omega) (by omega) dX6_ofPlot_12 (fun z1 (hz1 : z1 = gA (w 10) 1 ((41 + (3 * pl)) + q)) rz1 => ?_)
  have rz1a := rz1.1
  have rz1b := rz1.2
  exact r_iret C0 hW rz1 (⟨by omega, rfl⟩) dX6_ofPlot_13

/-- X6_ofRow: its end -/
def po_X6_ofRow (w : gW) (pc9 : Int) (q : Int) : Int → gW → Prop := fun z w1 => (z = gA (w 10) 1 (101 + 6 * pc9 + q)) ∧ w = w1
theorem hdV_X6_ofRow : yX6_ofRow.cls = RX6 ∧ yX6_ofRow.cls ≠ "java/lang/invoke/MethodHandle" ∧ yX6_ofRow.cls ≠ "java/lang/invoke/VarHandle" ∧ (parseMethodDescriptor yX6_ofRow.desc).map (fun d => d.parameters.length) = some 2 := by decide +kernel
set_option maxHeartbeats 4000000 in
set_option maxRecDepth 100000 in
theorem c_X6_ofRow (l : Launch) (G : gG) (w : gW) (pc9 : Int) (q : Int) (rpc9 : inR pc9) (rq : inR q) (hix : 0 ≤ 101 + 6 * pc9 + q ∧ 101 + 6 * pc9 + q < 941) : mI l G yX6_ofRow (wU yX6_ofRow cX6_ofRow 3 (some .int)) (rmL 0 0) [.ref (ad G 10 0), .int (iI pc9), .int (iI q)] w (po_X6_ofRow w pc9 q) := by
  refine mI_of (by decide +kernel) (Nat.le_of_ble_eq_true rfl) (fun p e s m args below meth c ls C0 hW hl => ?_)
  have hl : lv_has ls 3 [(0, .ref (ad G 10 0)), (1, .int (iI pc9)), (2, .int (iI q))] := hl
  have hx := C0.hx
  have hb := C0.hb
  refine lv_aload_n hx hb dX6_ofRow_0 rfl (lv_at hl 0 rfl) ?_
  refine r_gR C0 hW (show 10 < 11 ∧ 0 < bs 10 from ⟨by decide, by decide⟩) rfl rfl hiX6 (k := 1) (by decide) kf_X6_7 rfl rfl rfl dX6_ofRow_1 ?_
  refine r_bipush hx hb dX6_ofRow_4 (by decide) ?_
  refine r_bipush hx hb dX6_ofRow_6 (by decide) ?_
  refine lv_iload_n hx hb dX6_ofRow_8 rfl (lv_at hl 1 rfl) ?_
  refine r_imul hx hb dX6_ofRow_9 ?_
  refine r_iadd hx hb dX6_ofRow_10 ?_
  refine lv_iload_n hx hb dX6_ofRow_11 rfl (lv_at hl 2 rfl) ?_
  refine r_iadd hx hb dX6_ofRow_12 ?_
  refine r_ild C0 hW (show 10 < 11 ∧ 1 < bs 10 from ⟨by decide, by decide⟩) rfl (n := 941) (by omega) (by omega) (by omega) dX6_ofRow_13 (fun z1 (hz1 : z1 = gA (w 10) 1 ((101 + (6 * pc9)) + q)) rz1 => ?_)
  have rz1a := rz1.1
  have rz1b := rz1.2
  exact r_iret C0 hW rz1 (⟨by omega, rfl⟩) dX6_ofRow_14

/-- X6_ofDispute: its end -/
def po_X6_ofDispute (w : gW) (k : Int) (q : Int) : Int → gW → Prop := fun z w1 => (z = gA (w 10) 1 (461 + 4 * k + q)) ∧ w = w1
theorem hdV_X6_ofDispute : yX6_ofDispute.cls = RX6 ∧ yX6_ofDispute.cls ≠ "java/lang/invoke/MethodHandle" ∧ yX6_ofDispute.cls ≠ "java/lang/invoke/VarHandle" ∧ (parseMethodDescriptor yX6_ofDispute.desc).map (fun d => d.parameters.length) = some 2 := by decide +kernel
set_option maxHeartbeats 4000000 in
set_option maxRecDepth 100000 in
theorem c_X6_ofDispute (l : Launch) (G : gG) (w : gW) (k : Int) (q : Int) (rk : inR k) (rq : inR q) (hix : 0 ≤ 461 + 4 * k + q ∧ 461 + 4 * k + q < 941) : mI l G yX6_ofDispute (wU yX6_ofDispute cX6_ofDispute 3 (some .int)) (rmL 0 0) [.ref (ad G 10 0), .int (iI k), .int (iI q)] w (po_X6_ofDispute w k q) := by
  refine mI_of (by decide +kernel) (Nat.le_of_ble_eq_true rfl) (fun p e s m args below meth c ls C0 hW hl => ?_)
  have hl : lv_has ls 3 [(0, .ref (ad G 10 0)), (1, .int (iI k)), (2, .int (iI q))] := hl
  have hx := C0.hx
  have hb := C0.hb
  refine lv_aload_n hx hb dX6_ofDispute_0 rfl (lv_at hl 0 rfl) ?_
  refine r_gR C0 hW (show 10 < 11 ∧ 0 < bs 10 from ⟨by decide, by decide⟩) rfl rfl hiX6 (k := 1) (by decide) kf_X6_7 rfl rfl rfl dX6_ofDispute_1 ?_
  refine r_sipush hx hb dX6_ofDispute_4 (by decide) ?_
  refine r_iconst hx hb dX6_ofDispute_7 ?_
  refine lv_iload_n hx hb dX6_ofDispute_8 rfl (lv_at hl 1 rfl) ?_
  refine r_imul hx hb dX6_ofDispute_9 ?_
  refine r_iadd hx hb dX6_ofDispute_10 ?_
  refine lv_iload_n hx hb dX6_ofDispute_11 rfl (lv_at hl 2 rfl) ?_
  refine r_iadd hx hb dX6_ofDispute_12 ?_
  refine r_ild C0 hW (show 10 < 11 ∧ 1 < bs 10 from ⟨by decide, by decide⟩) rfl (n := 941) (by omega) (by omega) (by omega) dX6_ofDispute_13 (fun z1 (hz1 : z1 = gA (w 10) 1 ((461 + (4 * k)) + q)) rz1 => ?_)
  have rz1a := rz1.1
  have rz1b := rz1.2
  exact r_iret C0 hW rz1 (⟨by omega, rfl⟩) dX6_ofDispute_14

/-- X6_addCommoner: its end -/
def po_X6_addCommoner (w : gW) (co : Int) (q : Int) (v : Int) : gW → Prop := fun w1 => w1 = up w 10 (sF (w 10) 1 (st ((w 10).1 1) (11 + 3 * co + q) (iI (gA (w 10) 1 (11 + 3 * co + q) + v))))
theorem hdV_X6_addCommoner : yX6_addCommoner.cls = RX6 ∧ yX6_addCommoner.cls ≠ "java/lang/invoke/MethodHandle" ∧ yX6_addCommoner.cls ≠ "java/lang/invoke/VarHandle" ∧ (parseMethodDescriptor yX6_addCommoner.desc).map (fun d => d.parameters.length) = some 3 := by decide +kernel
set_option maxHeartbeats 4000000 in
set_option maxRecDepth 100000 in
theorem c_X6_addCommoner (l : Launch) (G : gG) (w : gW) (co : Int) (q : Int) (v : Int) (rco : inR co) (rq : inR q) (rv : inR v) (hix : 0 ≤ 11 + 3 * co + q ∧ 11 + 3 * co + q < 941) : mV l G yX6_addCommoner (wU yX6_addCommoner cX6_addCommoner 4 none) (rmL 0 0) [.ref (ad G 10 0), .int (iI co), .int (iI q), .int (iI v)] w (po_X6_addCommoner w co q v) := by
  refine mV_of (by decide +kernel) (Nat.le_of_ble_eq_true rfl) (fun p e s m args below meth c ls C0 hW hl => ?_)
  have hl : lv_has ls 4 [(0, .ref (ad G 10 0)), (1, .int (iI co)), (2, .int (iI q)), (3, .int (iI v))] := hl
  have hx := C0.hx
  have hb := C0.hb
  refine lv_aload_n hx hb dX6_addCommoner_0 rfl (lv_at hl 0 rfl) ?_
  refine r_gR C0 hW (show 10 < 11 ∧ 0 < bs 10 from ⟨by decide, by decide⟩) rfl rfl hiX6 (k := 1) (by decide) kf_X6_7 rfl rfl rfl dX6_addCommoner_1 ?_
  refine r_bipush hx hb dX6_addCommoner_4 (by decide) ?_
  refine r_iconst hx hb dX6_addCommoner_6 ?_
  refine lv_iload_n hx hb dX6_addCommoner_7 rfl (lv_at hl 1 rfl) ?_
  refine r_imul hx hb dX6_addCommoner_8 ?_
  refine r_iadd hx hb dX6_addCommoner_9 ?_
  refine lv_iload_n hx hb dX6_addCommoner_10 rfl (lv_at hl 2 rfl) ?_
  refine r_iadd hx hb dX6_addCommoner_11 ?_
  refine lv_dup2_11 hx hb dX6_addCommoner_12 rfl rfl ?_
  refine r_ild C0 hW (show 10 < 11 ∧ 1 < bs 10 from ⟨by decide, by decide⟩) rfl (n := 941) (by omega) (by omega) (by omega) dX6_addCommoner_13 (fun z1 (hz1 : z1 = gA (w 10) 1 ((11 + (3 * co)) + q)) rz1 => ?_)
  have rz1a := rz1.1
  have rz1b := rz1.2
  refine lv_iload_n hx hb dX6_addCommoner_14 rfl (lv_at hl 3 rfl) ?_
  refine r_iadd hx hb dX6_addCommoner_15 ?_
  refine r_ist C0 hW (show 10 < 11 ∧ 1 < bs 10 from ⟨by decide, by decide⟩) (fun A => rfl) (n := 941) (v := iI (z1 + v)) (by omega) (by omega) (by decide) dX6_addCommoner_16 (fun H1 locs1 hW => ?_)
  obtain ⟨w2, hw2⟩ : ∃ wq9 : gW, wq9 = up w 10 (sA (w 10) 1 ((11 + (3 * co)) + q) (iI (z1 + v))) := ⟨_, rfl⟩
  rw [← hw2] at hW
  exact r_vret C0 hW (by unfold po_X6_addCommoner; simp only [hw2, sA_st, hz1]) dX6_addCommoner_17

/-- X6_layRow: its end -/
def po_X6_layRow (w : gW) (pc9 : Int) (q : Int) (v : Int) : gW → Prop := fun w1 => w1 = up w 10 (sF (w 10) 1 (st ((w 10).1 1) (101 + 6 * pc9 + q) (iI v)))
theorem hdV_X6_layRow : yX6_layRow.cls = RX6 ∧ yX6_layRow.cls ≠ "java/lang/invoke/MethodHandle" ∧ yX6_layRow.cls ≠ "java/lang/invoke/VarHandle" ∧ (parseMethodDescriptor yX6_layRow.desc).map (fun d => d.parameters.length) = some 3 := by decide +kernel
set_option maxHeartbeats 4000000 in
set_option maxRecDepth 100000 in
theorem c_X6_layRow (l : Launch) (G : gG) (w : gW) (pc9 : Int) (q : Int) (v : Int) (rpc9 : inR pc9) (rq : inR q) (rv : inR v) (hix : 0 ≤ 101 + 6 * pc9 + q ∧ 101 + 6 * pc9 + q < 941) : mV l G yX6_layRow (wU yX6_layRow cX6_layRow 4 none) (rmL 0 0) [.ref (ad G 10 0), .int (iI pc9), .int (iI q), .int (iI v)] w (po_X6_layRow w pc9 q v) := by
  refine mV_of (by decide +kernel) (Nat.le_of_ble_eq_true rfl) (fun p e s m args below meth c ls C0 hW hl => ?_)
  have hl : lv_has ls 4 [(0, .ref (ad G 10 0)), (1, .int (iI pc9)), (2, .int (iI q)), (3, .int (iI v))] := hl
  have hx := C0.hx
  have hb := C0.hb
  refine lv_aload_n hx hb dX6_layRow_0 rfl (lv_at hl 0 rfl) ?_
  refine r_gR C0 hW (show 10 < 11 ∧ 0 < bs 10 from ⟨by decide, by decide⟩) rfl rfl hiX6 (k := 1) (by decide) kf_X6_7 rfl rfl rfl dX6_layRow_1 ?_
  refine r_bipush hx hb dX6_layRow_4 (by decide) ?_
  refine r_bipush hx hb dX6_layRow_6 (by decide) ?_
  refine lv_iload_n hx hb dX6_layRow_8 rfl (lv_at hl 1 rfl) ?_
  refine r_imul hx hb dX6_layRow_9 ?_
  refine r_iadd hx hb dX6_layRow_10 ?_
  refine lv_iload_n hx hb dX6_layRow_11 rfl (lv_at hl 2 rfl) ?_
  refine r_iadd hx hb dX6_layRow_12 ?_
  refine lv_iload_n hx hb dX6_layRow_13 rfl (lv_at hl 3 rfl) ?_
  refine r_ist C0 hW (show 10 < 11 ∧ 1 < bs 10 from ⟨by decide, by decide⟩) (fun A => rfl) (n := 941) (v := iI v) (by omega) (by omega) (by decide) dX6_layRow_14 (fun H1 locs1 hW => ?_)
  obtain ⟨w1, hw1⟩ : ∃ wq9 : gW, wq9 = up w 10 (sA (w 10) 1 ((101 + (6 * pc9)) + q) (iI v)) := ⟨_, rfl⟩
  rw [← hw1] at hW
  exact r_vret C0 hW (by unfold po_X6_layRow; simp only [hw1, sA_st, id]) dX6_layRow_15

/-- X6_placeOf: its end -/
def po_X6_placeOf (w : gW) (r : Int) : Int → gW → Prop := fun z w1 => ((z = -5 ∧ ∀ p : Int, 0 ≤ p → p < gA (w 10) 1 4 → ¬ gA (w 10) 1 (101 + 6 * p + 0) = r) ∨ (0 ≤ z ∧ z < gA (w 10) 1 4 ∧ gA (w 10) 1 (101 + 6 * z + 0) = r ∧ ∀ p : Int, 0 ≤ p → p < z → ¬ gA (w 10) 1 (101 + 6 * p + 0) = r)) ∧ w = w1
theorem hdV_X6_placeOf : yX6_placeOf.cls = RX6 ∧ yX6_placeOf.cls ≠ "java/lang/invoke/MethodHandle" ∧ yX6_placeOf.cls ≠ "java/lang/invoke/VarHandle" ∧ (parseMethodDescriptor yX6_placeOf.desc).map (fun d => d.parameters.length) = some 1 := by decide +kernel
set_option maxHeartbeats 4000000 in
set_option maxRecDepth 100000 in
theorem c_X6_placeOf (l : Launch) (G : gG) (w : gW) (r : Int) (rr : inR r) (hL9 : 0 ≤ gA (w 10) 1 4 ∧ gA (w 10) 1 4 ≤ 60) : mI l G yX6_placeOf (wU yX6_placeOf cX6_placeOf 3 (some .int)) (rmL 1 22) [.ref (ad G 10 0), .int (iI r)] w (po_X6_placeOf w r) := by
  refine mI_of (by decide +kernel) (Nat.le_of_ble_eq_true rfl) (fun p e s m args below meth c ls C0 hW hl => ?_)
  have hl : lv_has ls 3 [(0, .ref (ad G 10 0)), (1, .int (iI r))] := hl
  have hx := C0.hx
  have hb := C0.hb
  refine r_iconst hx hb dX6_placeOf_0 ?_
  refine lv_istore_n (lv' := [(2, .int (iI 0)), (0, .ref (ad G 10 0)), (1, .int (iI r))]) hx hb dX6_placeOf_1 rfl hl (by decide) rfl (fun ls hl => ?_)
  have hL2 : ∀ (n : Nat) (x2 : Int) (H0 : Heap) (locs0 : List Loc) (ls : Array Slot) (hm : gA (w 10) 1 4 - x2 < (n : Int)) (i2_0 : 0 ≤ x2) (i2_1 : x2 ≤ gA (w 10) 1 4) (i2_2 : ∀ p : Int, 0 ≤ p → p < x2 → ¬ gA (w 10) 1 (101 + 6 * p + 0) = r) (hW : wo G w s H0 locs0) (hl : lv_has ls 3 [(2, .int (iI x2)), (0, .ref (ad G 10 0)), (1, .int (iI r))]), W p l e (rmL 1 22) s m args below meth c H0 locs0 0 0 (QI G (po_X6_placeOf w r) below args s) (F0 m 2 ls []) := by
    intro n
    induction n with
    | zero =>
      intro x2 H0 locs0 ls hm i2_0 i2_1 i2_2 hW hl
      exact absurd hm (by omega)
    | succ n ih2 =>
      intro x2 H0 locs0 ls hm i2_0 i2_1 i2_2 hW hl
      refine lv_iload_n hx hb dX6_placeOf_2 rfl (lv_at hl 0 rfl) ?_
      refine lv_aload_n hx hb dX6_placeOf_3 rfl (lv_at hl 1 rfl) ?_
      refine r_gR C0 hW (show 10 < 11 ∧ 0 < bs 10 from ⟨by decide, by decide⟩) rfl rfl hiX6 (k := 1) (by decide) kf_X6_7 rfl rfl rfl dX6_placeOf_4 ?_
      refine r_iconst hx hb dX6_placeOf_7 ?_
      refine r_ild C0 hW (show 10 < 11 ∧ 1 < bs 10 from ⟨by decide, by decide⟩) rfl (n := 941) (by omega) (by omega) (by omega) dX6_placeOf_8 (fun z1 (hz1 : z1 = gA (w 10) 1 4) rz1 => ?_)
      have rz1a := rz1.1
      have rz1b := rz1.2
      refine r_icmp_ge (tgt := 30) hx hb ⟨by omega, by omega⟩ rz1 dX6_placeOf_9 (by decide) (fun c2 => ?_) (fun c2 => ?_)
      · refine r_bipush hx hb dX6_placeOf_30 (by decide) ?_
        exact r_iret C0 hW ⟨by omega, by omega⟩ (⟨Or.inl ⟨rfl, fun q q0 q1 => i2_2 q q0 (by omega)⟩, rfl⟩) dX6_placeOf_32
      · refine lv_aload_n hx hb dX6_placeOf_12 rfl (lv_at hl 1 rfl) ?_
        refine lv_iload_n hx hb dX6_placeOf_13 rfl (lv_at hl 0 rfl) ?_
        refine r_iconst hx hb dX6_placeOf_14 ?_
        refine k_Vi (j := 10) (k0 := 0) C0 hW (c_X6_ofRow l G w x2 0 ⟨by omega, by omega⟩ ⟨by omega, by omega⟩ (by omega)) km_X6_36 ki_X6_ofRow ke_X6_ofRow kn_X6 kc_X6_ofRow rfl hdV_X6_ofRow ⟨by decide, by decide⟩ (show 10 < 11 ∧ 0 < bs 10 from ⟨by decide, by decide⟩) rfl rfl rfl hl.1 rfl (Nat.le_of_ble_eq_true rfl) dX6_placeOf_15 (fun z3 w3 H1 locs1 rz3 hp3 hW => ?_)
        obtain ⟨hp3, hq3⟩ := hp3
        subst hq3
        have rz3a := rz3.1
        have rz3b := rz3.2
        refine lv_iload_n hx hb dX6_placeOf_18 rfl (lv_at hl 2 rfl) ?_
        refine r_icmp_ne (tgt := 24) hx hb rz3 rr dX6_placeOf_19 (by decide) (fun c4 => ?_) (fun c4 => ?_)
        · refine r_iinc (lv' := [(2, .int (iI (x2 + 1))), (0, .ref (ad G 10 0)), (1, .int (iI r))]) hx hb dX6_placeOf_24 hl (k := 0) rfl (by decide) rfl (fun ls hl => ?_)
          refine lv_goto (tgt := 2) hx hb dX6_placeOf_27 (by decide) ?_
          exact ih2 (x2 + 1) _ _ ls (by omega) (by omega) (by omega) (fun q q0 q1 => (show q < x2 ∨ q = x2 by omega).elim (fun h => i2_2 q q0 h) (fun h => by rw [h]; omega)) hW (lv_sub hl [0, 1, 2] rfl)
        · refine lv_iload_n hx hb dX6_placeOf_22 rfl (lv_at hl 0 rfl) ?_
          exact r_iret C0 hW ⟨by omega, by omega⟩ (⟨Or.inr ⟨by omega, by omega, by omega, i2_2⟩, rfl⟩) dX6_placeOf_23
  exact hL2 61 0 _ _ ls (by omega) (by omega) (by omega) (fun q q0 q1 => absurd q1 (by omega)) hW (lv_sub hl [0, 1, 2] rfl)

/-- X6_brings: its end -/
def po_X6_brings (w : gW) (pc9 : Int) : Int → gW → Prop := fun z w1 => (z = max 0 (40 - gA (w 10) 1 (101 + 6 * pc9 + 3))) ∧ w = w1
theorem hdV_X6_brings : yX6_brings.cls = RX6 ∧ yX6_brings.cls ≠ "java/lang/invoke/MethodHandle" ∧ yX6_brings.cls ≠ "java/lang/invoke/VarHandle" ∧ (parseMethodDescriptor yX6_brings.desc).map (fun d => d.parameters.length) = some 1 := by decide +kernel
set_option maxHeartbeats 4000000 in
set_option maxRecDepth 100000 in
theorem c_X6_brings (l : Launch) (G : gG) (w : gW) (pc9 : Int) (rpc9 : inR pc9) (hp9 : 0 ≤ pc9 ∧ pc9 < 60) (hwr : 0 ≤ gA (w 10) 1 (101 + 6 * pc9 + 3) ∧ gA (w 10) 1 (101 + 6 * pc9 + 3) ≤ 60) : mI l G yX6_brings (wU yX6_brings cX6_brings 3 (some .int)) (rmL 1 22) [.ref (ad G 10 0), .int (iI pc9)] w (po_X6_brings w pc9) := by
  refine mI_of (by decide +kernel) (Nat.le_of_ble_eq_true rfl) (fun p e s m args below meth c ls C0 hW hl => ?_)
  have hl : lv_has ls 3 [(0, .ref (ad G 10 0)), (1, .int (iI pc9))] := hl
  have hx := C0.hx
  have hb := C0.hb
  refine r_bipush hx hb dX6_brings_0 (by decide) ?_
  refine lv_aload_n hx hb dX6_brings_2 rfl (lv_at hl 0 rfl) ?_
  refine lv_iload_n hx hb dX6_brings_3 rfl (lv_at hl 1 rfl) ?_
  refine r_iconst hx hb dX6_brings_4 ?_
  refine k_Vi (j := 10) (k0 := 0) C0 hW (c_X6_ofRow l G w pc9 3 rpc9 ⟨by omega, by omega⟩ (by omega)) km_X6_36 ki_X6_ofRow ke_X6_ofRow kn_X6 kc_X6_ofRow rfl hdV_X6_ofRow ⟨by decide, by decide⟩ (show 10 < 11 ∧ 0 < bs 10 from ⟨by decide, by decide⟩) rfl rfl rfl hl.1 rfl (Nat.le_of_ble_eq_true rfl) dX6_brings_5 (fun z1 w1 H1 locs1 rz1 hp1 hW => ?_)
  obtain ⟨hp1, hq1⟩ := hp1
  subst hq1
  have rz1a := rz1.1
  have rz1b := rz1.2
  refine r_isub hx hb dX6_brings_8 ?_
  refine lv_istore_n (lv' := [(2, .int (iI (40 - z1))), (0, .ref (ad G 10 0)), (1, .int (iI pc9))]) hx hb dX6_brings_9 rfl hl (by decide) rfl (fun ls hl => ?_)
  refine lv_iload_n hx hb dX6_brings_10 rfl (lv_at hl 0 rfl) ?_
  refine r_if_ge (tgt := 18) hx hb ⟨by omega, by omega⟩ dX6_brings_11 (by decide) (fun c2 => ?_) (fun c2 => ?_)
  · refine lv_iload_n hx hb dX6_brings_18 rfl (lv_at hl 0 rfl) ?_
    exact r_iret C0 hW ⟨by omega, by omega⟩ (⟨by omega, rfl⟩) dX6_brings_19
  · refine r_iconst hx hb dX6_brings_14 ?_
    refine lv_goto (tgt := 19) hx hb dX6_brings_15 (by decide) ?_
    exact r_iret C0 hW ⟨by omega, by omega⟩ (⟨by omega, rfl⟩) dX6_brings_19

/-- X6_nextFor: its end -/
def po_X6_nextFor (w : gW) (co : Int) : Int → gW → Prop := fun z w1 => (z = nxA ((w 10).1 1) co) ∧ w = w1
theorem hdV_X6_nextFor : yX6_nextFor.cls = RX6 ∧ yX6_nextFor.cls ≠ "java/lang/invoke/MethodHandle" ∧ yX6_nextFor.cls ≠ "java/lang/invoke/VarHandle" ∧ (parseMethodDescriptor yX6_nextFor.desc).map (fun d => d.parameters.length) = some 1 := by decide +kernel
set_option maxHeartbeats 4000000 in
set_option maxRecDepth 100000 in
theorem c_X6_nextFor (l : Launch) (G : gG) (w : gW) (co : Int) (rco : inR co) (hL9 : 0 ≤ gA (w 10) 1 4 ∧ gA (w 10) 1 4 ≤ 60) : mI l G yX6_nextFor (wU yX6_nextFor cX6_nextFor 5 (some .int)) (rmL 1 22) [.ref (ad G 10 0), .int (iI co)] w (po_X6_nextFor w co) := by
  refine mI_of (by decide +kernel) (Nat.le_of_ble_eq_true rfl) (fun p e s m args below meth c ls C0 hW hl => ?_)
  have hl : lv_has ls 5 [(0, .ref (ad G 10 0)), (1, .int (iI co))] := hl
  have hx := C0.hx
  have hb := C0.hb
  refine r_bipush hx hb dX6_nextFor_0 (by decide) ?_
  refine lv_istore_n (lv' := [(2, .int (iI (-5))), (0, .ref (ad G 10 0)), (1, .int (iI co))]) hx hb dX6_nextFor_2 rfl hl (by decide) rfl (fun ls hl => ?_)
  refine r_iconst hx hb dX6_nextFor_3 ?_
  refine lv_istore_n (lv' := [(3, .int (iI 0)), (2, .int (iI (-5))), (0, .ref (ad G 10 0)), (1, .int (iI co))]) hx hb dX6_nextFor_4 rfl hl (by decide) rfl (fun ls hl => ?_)
  have hL5 : ∀ (n : Nat) (x2 : Int) (x3 : Int) (H0 : Heap) (locs0 : List Loc) (ls : Array Slot) (hm : gA (w 10) 1 4 - x3 < (n : Int)) (i5_0 : 0 ≤ x3) (i5_1 : x3 ≤ gA (w 10) 1 4) (i5_2 : x2 = bspI ((w 10).1 1) co x3) (hW : wo G w s H0 locs0) (hl : lv_has ls 5 [(3, .int (iI x3)), (2, .int (iI x2)), (0, .ref (ad G 10 0)), (1, .int (iI co))]), W p l e (rmL 1 22) s m args below meth c H0 locs0 0 0 (QI G (po_X6_nextFor w co) below args s) (F0 m 5 ls []) := by
    intro n
    induction n with
    | zero =>
      intro x2 x3 H0 locs0 ls hm i5_0 i5_1 i5_2 hW hl
      exact absurd hm (by omega)
    | succ n ih5 =>
      intro x2 x3 H0 locs0 ls hm i5_0 i5_1 i5_2 hW hl
      have hbl := bspI_le ((w 10).1 1) co i5_0
      rw [← i5_2] at hbl
      refine lv_iload_n hx hb dX6_nextFor_5 rfl (lv_at hl 0 rfl) ?_
      refine lv_aload_n hx hb dX6_nextFor_6 rfl (lv_at hl 2 rfl) ?_
      refine r_gR C0 hW (show 10 < 11 ∧ 0 < bs 10 from ⟨by decide, by decide⟩) rfl rfl hiX6 (k := 1) (by decide) kf_X6_7 rfl rfl rfl dX6_nextFor_7 ?_
      refine r_iconst hx hb dX6_nextFor_10 ?_
      refine r_ild C0 hW (show 10 < 11 ∧ 1 < bs 10 from ⟨by decide, by decide⟩) rfl (n := 941) (by omega) (by omega) (by omega) dX6_nextFor_11 (fun z1 (hz1 : z1 = gA (w 10) 1 4) rz1 => ?_)
      have rz1a := rz1.1
      have rz1b := rz1.2
      refine r_icmp_ge (tgt := 80) hx hb ⟨by omega, by omega⟩ rz1 dX6_nextFor_12 (by decide) (fun c2 => ?_) (fun c2 => ?_)
      · refine lv_iload_n hx hb dX6_nextFor_80 rfl (lv_at hl 1 rfl) ?_
        exact r_iret C0 hW ⟨by omega, by omega⟩ (⟨by unfold nxA; rw [← gA_aI, show gA (w 10) 1 4 = x3 from by omega]; exact i5_2, rfl⟩) dX6_nextFor_81
      · refine lv_aload_n hx hb dX6_nextFor_15 rfl (lv_at hl 2 rfl) ?_
        refine lv_iload_n hx hb dX6_nextFor_16 rfl (lv_at hl 0 rfl) ?_
        refine r_iconst hx hb dX6_nextFor_17 ?_
        refine k_Vi (j := 10) (k0 := 0) C0 hW (c_X6_ofRow l G w x3 1 ⟨by omega, by omega⟩ ⟨by omega, by omega⟩ (by omega)) km_X6_36 ki_X6_ofRow ke_X6_ofRow kn_X6 kc_X6_ofRow rfl hdV_X6_ofRow ⟨by decide, by decide⟩ (show 10 < 11 ∧ 0 < bs 10 from ⟨by decide, by decide⟩) rfl rfl rfl hl.1 rfl (Nat.le_of_ble_eq_true rfl) dX6_nextFor_18 (fun z3 w3 H1 locs1 rz3 hp3 hW => ?_)
        obtain ⟨hp3, hq3⟩ := hp3
        subst hq3
        have rz3a := rz3.1
        have rz3b := rz3.2
        refine lv_iload_n hx hb dX6_nextFor_21 rfl (lv_at hl 3 rfl) ?_
        refine r_icmp_ne (tgt := 39) hx hb rz3 rco dX6_nextFor_22 (by decide) (fun c4 => ?_) (fun c4 => ?_)
        · refine r_iconst hx hb dX6_nextFor_39 ?_
          refine lv_istore (lv' := [(4, .int (iI 0)), (3, .int (iI x3)), (2, .int (iI x2)), (0, .ref (ad G 10 0)), (1, .int (iI co))]) hx hb dX6_nextFor_40 hl (by decide) rfl (fun ls hl => ?_)
          refine lv_iload hx hb dX6_nextFor_42 (lv_at hl 0 rfl) ?_
          refine r_if_eq (tgt := 72) hx hb ⟨by omega, by omega⟩ dX6_nextFor_44 (by decide) (fun _ => ?_) (fun q => absurd q (by decide))
          refine lv_iload_n hx hb dX6_nextFor_72 rfl (lv_at hl 2 rfl) ?_
          refine lv_istore_n (lv' := [(2, .int (iI x2)), (4, .int (iI 0)), (3, .int (iI x3)), (0, .ref (ad G 10 0)), (1, .int (iI co))]) hx hb dX6_nextFor_73 rfl hl (by decide) rfl (fun ls hl => ?_)
          refine r_iinc (lv' := [(3, .int (iI (x3 + 1))), (2, .int (iI x2)), (4, .int (iI 0)), (0, .ref (ad G 10 0)), (1, .int (iI co))]) hx hb dX6_nextFor_74 hl (k := 2) rfl (by decide) rfl (fun ls hl => ?_)
          refine lv_goto (tgt := 5) hx hb dX6_nextFor_77 (by decide) ?_
          exact ih5 x2 (x3 + 1) _ _ ls (by omega) (by omega) (by omega) (by first | (rw [bspI_t (by omega) (by unfold qP; simp only [← gA_aI]; omega) (by rw [← i5_2]; simp only [← gA_aI]; omega)]) | (rw [bspI_f (by omega) (by rw [← i5_2]; unfold qP; simp only [← gA_aI]; omega)]; exact i5_2)) hW (lv_sub hl [0, 1, 3, 4] rfl)
        · refine lv_aload_n hx hb dX6_nextFor_25 rfl (lv_at hl 2 rfl) ?_
          refine lv_iload_n hx hb dX6_nextFor_26 rfl (lv_at hl 0 rfl) ?_
          refine r_iconst hx hb dX6_nextFor_27 ?_
          refine k_Vi (j := 10) (k0 := 0) C0 hW (c_X6_ofRow l G w x3 5 ⟨by omega, by omega⟩ ⟨by omega, by omega⟩ (by omega)) km_X6_36 ki_X6_ofRow ke_X6_ofRow kn_X6 kc_X6_ofRow rfl hdV_X6_ofRow ⟨by decide, by decide⟩ (show 10 < 11 ∧ 0 < bs 10 from ⟨by decide, by decide⟩) rfl rfl rfl hl.1 rfl (Nat.le_of_ble_eq_true rfl) dX6_nextFor_28 (fun z5 w5 H1 locs1 rz5 hp5 hW => ?_)
          obtain ⟨hp5, hq5⟩ := hp5
          subst hq5
          have rz5a := rz5.1
          have rz5b := rz5.2
          refine r_iconst hx hb dX6_nextFor_31 ?_
          refine r_icmp_ne (tgt := 39) hx hb rz5 ⟨by omega, by omega⟩ dX6_nextFor_32 (by decide) (fun c6 => ?_) (fun c6 => ?_)
          · refine r_iconst hx hb dX6_nextFor_39 ?_
            refine lv_istore (lv' := [(4, .int (iI 0)), (3, .int (iI x3)), (2, .int (iI x2)), (0, .ref (ad G 10 0)), (1, .int (iI co))]) hx hb dX6_nextFor_40 hl (by decide) rfl (fun ls hl => ?_)
            refine lv_iload hx hb dX6_nextFor_42 (lv_at hl 0 rfl) ?_
            refine r_if_eq (tgt := 72) hx hb ⟨by omega, by omega⟩ dX6_nextFor_44 (by decide) (fun _ => ?_) (fun q => absurd q (by decide))
            refine lv_iload_n hx hb dX6_nextFor_72 rfl (lv_at hl 2 rfl) ?_
            refine lv_istore_n (lv' := [(2, .int (iI x2)), (4, .int (iI 0)), (3, .int (iI x3)), (0, .ref (ad G 10 0)), (1, .int (iI co))]) hx hb dX6_nextFor_73 rfl hl (by decide) rfl (fun ls hl => ?_)
            refine r_iinc (lv' := [(3, .int (iI (x3 + 1))), (2, .int (iI x2)), (4, .int (iI 0)), (0, .ref (ad G 10 0)), (1, .int (iI co))]) hx hb dX6_nextFor_74 hl (k := 2) rfl (by decide) rfl (fun ls hl => ?_)
            refine lv_goto (tgt := 5) hx hb dX6_nextFor_77 (by decide) ?_
            exact ih5 x2 (x3 + 1) _ _ ls (by omega) (by omega) (by omega) (by first | (rw [bspI_t (by omega) (by unfold qP; simp only [← gA_aI]; omega) (by rw [← i5_2]; simp only [← gA_aI]; omega)]) | (rw [bspI_f (by omega) (by rw [← i5_2]; unfold qP; simp only [← gA_aI]; omega)]; exact i5_2)) hW (lv_sub hl [0, 1, 3, 4] rfl)
          · refine r_iconst hx hb dX6_nextFor_35 ?_
            refine lv_goto (tgt := 40) hx hb dX6_nextFor_36 (by decide) ?_
            refine lv_istore (lv' := [(4, .int (iI 1)), (3, .int (iI x3)), (2, .int (iI x2)), (0, .ref (ad G 10 0)), (1, .int (iI co))]) hx hb dX6_nextFor_40 hl (by decide) rfl (fun ls hl => ?_)
            refine lv_iload hx hb dX6_nextFor_42 (lv_at hl 0 rfl) ?_
            refine r_if_eq (tgt := 72) hx hb ⟨by omega, by omega⟩ dX6_nextFor_44 (by decide) (fun q => absurd q (by decide)) (fun _ => ?_)
            refine lv_iload_n hx hb dX6_nextFor_47 rfl (lv_at hl 2 rfl) ?_
            refine r_bipush hx hb dX6_nextFor_48 (by decide) ?_
            refine r_icmp_eq (tgt := 68) hx hb ⟨by omega, by omega⟩ ⟨by omega, by omega⟩ dX6_nextFor_50 (by decide) (fun c7 => ?_) (fun c7 => ?_)
            · refine lv_iload_n hx hb dX6_nextFor_68 rfl (lv_at hl 1 rfl) ?_
              refine lv_goto (tgt := 73) hx hb dX6_nextFor_69 (by decide) ?_
              refine lv_istore_n (lv' := [(2, .int (iI x3)), (4, .int (iI 1)), (3, .int (iI x3)), (0, .ref (ad G 10 0)), (1, .int (iI co))]) hx hb dX6_nextFor_73 rfl hl (by decide) rfl (fun ls hl => ?_)
              refine r_iinc (lv' := [(3, .int (iI (x3 + 1))), (2, .int (iI x3)), (4, .int (iI 1)), (0, .ref (ad G 10 0)), (1, .int (iI co))]) hx hb dX6_nextFor_74 hl (k := 2) rfl (by decide) rfl (fun ls hl => ?_)
              refine lv_goto (tgt := 5) hx hb dX6_nextFor_77 (by decide) ?_
              exact ih5 x3 (x3 + 1) _ _ ls (by omega) (by omega) (by omega) (by first | (rw [bspI_t (by omega) (by unfold qP; simp only [← gA_aI]; omega) (by rw [← i5_2]; simp only [← gA_aI]; omega)]) | (rw [bspI_f (by omega) (by rw [← i5_2]; unfold qP; simp only [← gA_aI]; omega)]; exact i5_2)) hW (lv_sub hl [0, 1, 3, 4] rfl)
            · refine lv_aload_n hx hb dX6_nextFor_53 rfl (lv_at hl 3 rfl) ?_
              refine lv_iload_n hx hb dX6_nextFor_54 rfl (lv_at hl 1 rfl) ?_
              refine r_iconst hx hb dX6_nextFor_55 ?_
              refine k_Vi (j := 10) (k0 := 0) C0 hW (c_X6_ofRow l G w x3 3 ⟨by omega, by omega⟩ ⟨by omega, by omega⟩ (by omega)) km_X6_36 ki_X6_ofRow ke_X6_ofRow kn_X6 kc_X6_ofRow rfl hdV_X6_ofRow ⟨by decide, by decide⟩ (show 10 < 11 ∧ 0 < bs 10 from ⟨by decide, by decide⟩) rfl rfl rfl hl.1 rfl (Nat.le_of_ble_eq_true rfl) dX6_nextFor_56 (fun z8 w8 H1 locs1 rz8 hp8 hW => ?_)
              obtain ⟨hp8, hq8⟩ := hp8
              subst hq8
              have rz8a := rz8.1
              have rz8b := rz8.2
              refine lv_aload_n hx hb dX6_nextFor_59 rfl (lv_at hl 3 rfl) ?_
              refine lv_iload_n hx hb dX6_nextFor_60 rfl (lv_at hl 2 rfl) ?_
              refine r_iconst hx hb dX6_nextFor_61 ?_
              refine k_Vi (j := 10) (k0 := 0) C0 hW (c_X6_ofRow l G w x2 3 ⟨by omega, by omega⟩ ⟨by omega, by omega⟩ (by omega)) km_X6_36 ki_X6_ofRow ke_X6_ofRow kn_X6 kc_X6_ofRow rfl hdV_X6_ofRow ⟨by decide, by decide⟩ (show 10 < 11 ∧ 0 < bs 10 from ⟨by decide, by decide⟩) rfl rfl rfl hl.1 rfl (Nat.le_of_ble_eq_true rfl) dX6_nextFor_62 (fun z9 w9 H1 locs1 rz9 hp9 hW => ?_)
              obtain ⟨hp9, hq9⟩ := hp9
              subst hq9
              have rz9a := rz9.1
              have rz9b := rz9.2
              refine r_icmp_ge (tgt := 72) hx hb rz8 rz9 dX6_nextFor_65 (by decide) (fun c10 => ?_) (fun c10 => ?_)
              · refine lv_iload_n hx hb dX6_nextFor_72 rfl (lv_at hl 2 rfl) ?_
                refine lv_istore_n (lv' := [(2, .int (iI x2)), (4, .int (iI 1)), (3, .int (iI x3)), (0, .ref (ad G 10 0)), (1, .int (iI co))]) hx hb dX6_nextFor_73 rfl hl (by decide) rfl (fun ls hl => ?_)
                refine r_iinc (lv' := [(3, .int (iI (x3 + 1))), (2, .int (iI x2)), (4, .int (iI 1)), (0, .ref (ad G 10 0)), (1, .int (iI co))]) hx hb dX6_nextFor_74 hl (k := 2) rfl (by decide) rfl (fun ls hl => ?_)
                refine lv_goto (tgt := 5) hx hb dX6_nextFor_77 (by decide) ?_
                exact ih5 x2 (x3 + 1) _ _ ls (by omega) (by omega) (by omega) (by first | (rw [bspI_t (by omega) (by unfold qP; simp only [← gA_aI]; omega) (by rw [← i5_2]; simp only [← gA_aI]; omega)]) | (rw [bspI_f (by omega) (by rw [← i5_2]; unfold qP; simp only [← gA_aI]; omega)]; exact i5_2)) hW (lv_sub hl [0, 1, 3, 4] rfl)
              · refine lv_iload_n hx hb dX6_nextFor_68 rfl (lv_at hl 1 rfl) ?_
                refine lv_goto (tgt := 73) hx hb dX6_nextFor_69 (by decide) ?_
                refine lv_istore_n (lv' := [(2, .int (iI x3)), (4, .int (iI 1)), (3, .int (iI x3)), (0, .ref (ad G 10 0)), (1, .int (iI co))]) hx hb dX6_nextFor_73 rfl hl (by decide) rfl (fun ls hl => ?_)
                refine r_iinc (lv' := [(3, .int (iI (x3 + 1))), (2, .int (iI x3)), (4, .int (iI 1)), (0, .ref (ad G 10 0)), (1, .int (iI co))]) hx hb dX6_nextFor_74 hl (k := 2) rfl (by decide) rfl (fun ls hl => ?_)
                refine lv_goto (tgt := 5) hx hb dX6_nextFor_77 (by decide) ?_
                exact ih5 x3 (x3 + 1) _ _ ls (by omega) (by omega) (by omega) (by first | (rw [bspI_t (by omega) (by unfold qP; simp only [← gA_aI]; omega) (by rw [← i5_2]; simp only [← gA_aI]; omega)]) | (rw [bspI_f (by omega) (by rw [← i5_2]; unfold qP; simp only [← gA_aI]; omega)]; exact i5_2)) hW (lv_sub hl [0, 1, 3, 4] rfl)
  exact hL5 61 (-5) 0 _ _ ls (by omega) (by omega) (by omega) (by rw [bspI_0]) hW (lv_sub hl [0, 1, 2, 3] rfl)
