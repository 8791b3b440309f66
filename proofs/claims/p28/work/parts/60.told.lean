/-- L_low: its end -/
def po_L_low (w : gW) (v : Int) (n : Int) : Int → gW → Prop := fun z w1 => (z = lowF v n) ∧ w = w1
theorem hdS_L_low : yL_low.cls ≠ "java/lang/invoke/MethodHandle" ∧ yL_low.cls ≠ "java/lang/invoke/VarHandle" ∧ (parseMethodDescriptor yL_low.desc).map (fun d => d.parameters.length) = some 2 := by decide +kernel
set_option maxHeartbeats 4000000 in
set_option maxRecDepth 100000 in
theorem c_L_low (l : Launch) (G : gG) (w : gW) (v : Int) (n : Int) (rv : inR v) (rn : inR n) (hn : 1 ≤ n) : mI l G yL_low (wU yL_low cL_low 2 (some .int)) (rmL 0 0) [.int (iI v), .int (iI n)] w (po_L_low w v n) := by
  refine mI_of (by decide +kernel) (Nat.le_of_ble_eq_true rfl) (fun p e s m args below meth c ls C0 hW hl => ?_)
  have hl : lv_has ls 2 [(0, .int (iI v)), (1, .int (iI n))] := hl
  have hx := C0.hx
  have hb := C0.hb
  refine lv_iload_n hx hb dL_low_0 rfl (lv_at hl 0 rfl) ?_
  refine lv_ldc hx hb (own := RL) C0.fix.2.2.2.1 (C0.w kk_L_7) dL_low_1 ?_
  rw [show (2147483647 : Int32) = iI 2147483647 from rfl]
  refine r_iand hx hb dL_low_3 ?_
  refine lv_iload_n hx hb dL_low_4 rfl (lv_at hl 1 rfl) ?_
  refine r_irm hx hb rn (by omega) dL_low_5 ?_
  exact r_iret C0 hW (inR_o _) (⟨rfl, rfl⟩) dL_low_6
/-- L_told: its end -/
def po_L_told (w : gW) (b0 : Nat) (b1 : Nat) (b2 : Nat) (b3 : Nat) : Int64 → gW → Prop := fun z w1 => z = tdF (w 1) ∧ w1 = w
theorem hdS_L_told : yL_told.cls ≠ "java/lang/invoke/MethodHandle" ∧ yL_told.cls ≠ "java/lang/invoke/VarHandle" ∧ (parseMethodDescriptor yL_told.desc).map (fun d => d.parameters.length) = some 1 := by decide +kernel
set_option maxHeartbeats 4000000 in
set_option maxRecDepth 100000 in
theorem c_L_told (l : Launch) (G : gG) (w : gW) {b0 : Nat} {b1 : Nat} {b2 : Nat} {b3 : Nat} (hO : okW w b0 b1 b2 b3) : mL l G yL_told (wU yL_told cL_told 5 (some .long)) (rmL 6 123) [.ref (ad G 0 0)] w (po_L_told w b0 b1 b2 b3) := by
  refine mL_of (by decide +kernel) (Nat.le_of_ble_eq_true rfl) (fun p e s m args below meth c ls C0 hW hl => ?_)
  have hl : lv_has ls 5 [(0, .ref (ad G 0 0))] := hl
  have hx := C0.hx
  have hb := C0.hb
  obtain ⟨hp4, hh, hwfs, hs4, hl9⟩ := id hO
  have hwf := hwfs 1 ms_1
  have hn0 := hwf.1.1
  have hn1 := hwf.1.2
  refine lv_ldc2 hx hb (own := RL) C0.fix.2.2.2.1 (C0.w kk_L_8) dL_told_0 ?_
  refine lv_lstore_n (lv' := [(1, .long 3), (0, .ref (ad G 0 0))]) hx hb dL_told_3 rfl hl (by decide) rfl (fun ls hl => ?_)
  refine r_iconst hx hb dL_told_4 ?_
  refine lv_istore_n (lv' := [(3, .int (iI 0)), (1, .long 3), (0, .ref (ad G 0 0))]) hx hb dL_told_5 rfl hl (by decide) rfl (fun ls hl => ?_)
  have hL6 : ∀ (n : Nat) (y1 : Int64) (x3 : Int) (H0 : Heap) (locs0 : List Loc) (ls : Array Slot) (hm : 13 - x3 < (n : Int)) (i6_0 : 0 ≤ x3) (i6_1 : x3 ≤ 13) (i6_2 : y1 = itX (fC (w 1)) (3) x3) (hW : wo G w s H0 locs0) (hl : lv_has ls 5 [(3, .int (iI x3)), (1, .long y1), (0, .ref (ad G 0 0))]), W p l e (rmL 6 123) s m args below meth c H0 locs0 0 0 (QL G (po_L_told w b0 b1 b2 b3) below args s) (F0 m 6 ls []) := by
    intro n
    induction n with
    | zero =>
      intro y1 x3 H0 locs0 ls hm i6_0 i6_1 i6_2 hW hl
      exact absurd hm (by omega)
    | succ n ih6 =>
      intro y1 x3 H0 locs0 ls hm i6_0 i6_1 i6_2 hW hl
      refine lv_iload_n hx hb dL_told_6 rfl (lv_at hl 0 rfl) ?_
      refine r_bipush hx hb dL_told_7 (by decide) ?_
      refine r_icmp_ge (tgt := 31) hx hb ⟨by omega, by omega⟩ ⟨by omega, by omega⟩ dL_told_9 (by decide) (fun c1 => ?_) (fun c1 => ?_)
      · refine r_iconst hx hb dL_told_31 ?_
        refine lv_istore_n (lv' := [(3, .int (iI 0)), (1, .long y1), (0, .ref (ad G 0 0))]) hx hb dL_told_32 rfl hl (by decide) rfl (fun ls hl => ?_)
        have hL33 : ∀ (n : Nat) (u1 : Int64) (x4 : Int) (H0 : Heap) (locs0 : List Loc) (ls : Array Slot) (hm : 10 - x4 < (n : Int)) (i33_0 : 0 ≤ x4) (i33_1 : x4 ≤ 10) (i33_2 : u1 = itX (fK (w 1)) (itX (fC (w 1)) 3 13) x4) (hW : wo G w s H0 locs0) (hl : lv_has ls 5 [(3, .int (iI x4)), (1, .long u1), (0, .ref (ad G 0 0))]), W p l e (rmL 6 123) s m args below meth c H0 locs0 0 0 (QL G (po_L_told w b0 b1 b2 b3) below args s) (F0 m 33 ls []) := by
          intro n
          induction n with
          | zero =>
            intro u1 x4 H0 locs0 ls hm i33_0 i33_1 i33_2 hW hl
            exact absurd hm (by omega)
          | succ n ih33 =>
            intro u1 x4 H0 locs0 ls hm i33_0 i33_1 i33_2 hW hl
            refine lv_iload_n hx hb dL_told_33 rfl (lv_at hl 0 rfl) ?_
            refine r_bipush hx hb dL_told_34 (by decide) ?_
            refine r_icmp_ge (tgt := 76) hx hb ⟨by omega, by omega⟩ ⟨by omega, by omega⟩ dL_told_36 (by decide) (fun c2 => ?_) (fun c2 => ?_)
            · refine r_iconst hx hb dL_told_76 ?_
              refine lv_istore_n (lv' := [(3, .int (iI 0)), (1, .long u1), (0, .ref (ad G 0 0))]) hx hb dL_told_77 rfl hl (by decide) rfl (fun ls hl => ?_)
              have hL78 : ∀ (n : Nat) (k1 : Int64) (x6 : Int) (H0 : Heap) (locs0 : List Loc) (ls : Array Slot) (hm : 20 - x6 < (n : Int)) (i78_0 : 0 ≤ x6) (i78_1 : x6 ≤ 20) (i78_2 : k1 = itX (fP (w 1)) (itX (fK (w 1)) (itX (fC (w 1)) 3 13) 10) x6) (hW : wo G w s H0 locs0) (hl : lv_has ls 5 [(3, .int (iI x6)), (1, .long k1), (0, .ref (ad G 0 0))]), W p l e (rmL 6 123) s m args below meth c H0 locs0 0 0 (QL G (po_L_told w b0 b1 b2 b3) below args s) (F0 m 78 ls []) := by
                intro n
                induction n with
                | zero =>
                  intro k1 x6 H0 locs0 ls hm i78_0 i78_1 i78_2 hW hl
                  exact absurd hm (by omega)
                | succ n ih78 =>
                  intro k1 x6 H0 locs0 ls hm i78_0 i78_1 i78_2 hW hl
                  refine lv_iload_n hx hb dL_told_78 rfl (lv_at hl 0 rfl) ?_
                  refine r_bipush hx hb dL_told_79 (by decide) ?_
                  refine r_icmp_ge (tgt := 116) hx hb ⟨by omega, by omega⟩ ⟨by omega, by omega⟩ dL_told_81 (by decide) (fun c3 => ?_) (fun c3 => ?_)
                  · refine r_iconst hx hb dL_told_116 ?_
                    refine lv_istore_n (lv' := [(3, .int (iI 0)), (1, .long k1), (0, .ref (ad G 0 0))]) hx hb dL_told_117 rfl hl (by decide) rfl (fun ls hl => ?_)
                    have hL118 : ∀ (n : Nat) (n1 : Int64) (x7 : Int) (H0 : Heap) (locs0 : List Loc) (ls : Array Slot) (hm : gN (w 1) 7 6 - x7 < (n : Int)) (i118_0 : 0 ≤ x7) (i118_1 : x7 ≤ gN (w 1) 7 6) (i118_2 : n1 = itX (fR (w 1)) (itX (fP (w 1)) (itX (fK (w 1)) (itX (fC (w 1)) 3 13) 10) 20) x7) (hW : wo G w s H0 locs0) (hl : lv_has ls 5 [(3, .int (iI x7)), (1, .long n1), (0, .ref (ad G 0 0))]), W p l e (rmL 6 123) s m args below meth c H0 locs0 0 0 (QL G (po_L_told w b0 b1 b2 b3) below args s) (F0 m 118 ls []) := by
                      intro n
                      induction n with
                      | zero =>
                        intro n1 x7 H0 locs0 ls hm i118_0 i118_1 i118_2 hW hl
                        exact absurd hm (by omega)
                      | succ n ih118 =>
                        intro n1 x7 H0 locs0 ls hm i118_0 i118_1 i118_2 hW hl
                        refine lv_iload_n hx hb dL_told_118 rfl (lv_at hl 0 rfl) ?_
                        refine lv_aload_n hx hb dL_told_119 rfl (lv_at hl 2 rfl) ?_
                        refine r_iconst hx hb dL_told_120 ?_
                        refine k_Vi (j := 0) (k0 := 0) C0 hW (c_X5_count l G w (hO) 3 ⟨by omega, by omega⟩) km_L_12 ki_X5_count ke_X5_count kn_X5 kc_X5_count rfl hdV_X5_count ⟨by decide, by decide⟩ (show 0 < 11 ∧ 0 < bs 0 from ⟨by decide, by decide⟩) rfl rfl rfl hl.1 rfl (Nat.le_of_ble_eq_true rfl) dL_told_121 (fun z4 w4 H1 locs1 rz4 hp4 hW => ?_)
                        have hv4 := cv_cnt hp4 rz4 (by omega)
                        clear hp4
                        obtain ⟨hp4, hq4⟩ := hv4
                        subst hq4
                        replace hp4 : z4 = gN (w 1) 7 6 := hp4
                        have rz4a := rz4.1
                        have rz4b := rz4.2
                        refine r_icmp_ge (tgt := 163) hx hb ⟨by omega, by omega⟩ rz4 dL_told_124 (by decide) (fun c5 => ?_) (fun c5 => ?_)
                        · refine lv_ldc2 hx hb (own := RL) C0.fix.2.2.2.1 (C0.w kk_L_10) dL_told_163 ?_
                          refine lv_ldc2 hx hb (own := RL) C0.fix.2.2.2.1 (C0.w kk_L_10) dL_told_166 ?_
                          refine lv_lload_n hx hb dL_told_169 rfl (lv_at hl 1 rfl) ?_
                          refine lv_lmul hx hb dL_told_170 ?_
                          refine lv_aload_n hx hb dL_told_171 rfl (lv_at hl 2 rfl) ?_
                          refine r_iconst hx hb dL_told_172 ?_
                          refine k_Vi (j := 0) (k0 := 0) C0 hW (c_X5_cart l G w (hO) 0 ⟨by omega, by omega⟩) km_L_28 ki_X5_cart ke_X5_cart kn_X5 kc_X5_cart rfl hdV_X5_cart ⟨by decide, by decide⟩ (show 0 < 11 ∧ 0 < bs 0 from ⟨by decide, by decide⟩) rfl rfl rfl hl.1 rfl (Nat.le_of_ble_eq_true rfl) dL_told_173 (fun z6 w6 H1 locs1 rz6 hp6 hW => ?_)
                          have hv6 := cv_cart hp6 (by omega)
                          clear hp6
                          obtain ⟨hp6, hq6⟩ := hv6
                          subst hq6
                          have rz6a := rz6.1
                          have rz6b := rz6.2
                          refine lv_i2l hx hb dL_told_176 rfl ?_
                          refine lv_ladd hx hb dL_told_177 ?_
                          refine lv_lmul hx hb dL_told_178 ?_
                          refine lv_aload_n hx hb dL_told_179 rfl (lv_at hl 2 rfl) ?_
                          refine r_iconst hx hb dL_told_180 ?_
                          refine k_Vi (j := 0) (k0 := 0) C0 hW (c_X5_cart l G w (hO) 1 ⟨by omega, by omega⟩) km_L_28 ki_X5_cart ke_X5_cart kn_X5 kc_X5_cart rfl hdV_X5_cart ⟨by decide, by decide⟩ (show 0 < 11 ∧ 0 < bs 0 from ⟨by decide, by decide⟩) rfl rfl rfl hl.1 rfl (Nat.le_of_ble_eq_true rfl) dL_told_181 (fun z7 w7 H1 locs1 rz7 hp7 hW => ?_)
                          have hv7 := cv_cart hp7 (by omega)
                          clear hp7
                          obtain ⟨hp7, hq7⟩ := hv7
                          subst hq7
                          have rz7a := rz7.1
                          have rz7b := rz7.2
                          refine lv_i2l hx hb dL_told_184 rfl ?_
                          refine lv_ladd hx hb dL_told_185 ?_
                          exact r_lret C0 hW (⟨by unfold tdF; rw [hp6, hp7, i118_2, show x7 = gN (w 1) 7 6 by omega], rfl⟩) dL_told_186
                        · refine r_iconst hx hb dL_told_127 ?_
                          refine lv_istore (lv' := [(4, .int (iI 0)), (3, .int (iI x7)), (1, .long n1), (0, .ref (ad G 0 0))]) hx hb dL_told_128 hl (by decide) rfl (fun ls hl => ?_)
                          have hL130 : ∀ (n : Nat) (q1 : Int64) (x8 : Int) (H0 : Heap) (locs0 : List Loc) (ls : Array Slot) (hm : 5 - x8 < (n : Int)) (i130_0 : 0 ≤ x8) (i130_1 : x8 ≤ 5) (i130_2 : q1 = itX (fRq (w 1) x7) (n1) x8) (hW : wo G w s H0 locs0) (hl : lv_has ls 5 [(4, .int (iI x8)), (3, .int (iI x7)), (1, .long q1), (0, .ref (ad G 0 0))]), W p l e (rmL 6 123) s m args below meth c H0 locs0 0 0 (QL G (po_L_told w b0 b1 b2 b3) below args s) (F0 m 130 ls []) := by
                            intro n
                            induction n with
                            | zero =>
                              intro q1 x8 H0 locs0 ls hm i130_0 i130_1 i130_2 hW hl
                              exact absurd hm (by omega)
                            | succ n ih130 =>
                              intro q1 x8 H0 locs0 ls hm i130_0 i130_1 i130_2 hW hl
                              refine lv_iload hx hb dL_told_130 (lv_at hl 0 rfl) ?_
                              refine r_iconst hx hb dL_told_132 ?_
                              refine r_icmp_ge (tgt := 157) hx hb ⟨by omega, by omega⟩ ⟨by omega, by omega⟩ dL_told_133 (by decide) (fun c8 => ?_) (fun c8 => ?_)
                              · refine r_iinc (lv' := [(3, .int (iI (x7 + 1))), (4, .int (iI x8)), (1, .long q1), (0, .ref (ad G 0 0))]) hx hb dL_told_157 hl (k := 1) rfl (by decide) rfl (fun ls hl => ?_)
                                refine lv_goto (tgt := 118) hx hb dL_told_160 (by decide) ?_
                                exact ih118 q1 (x7 + 1) _ _ ls (by omega) (by omega) (by omega) (by rw [itX_s _ _ i118_0, ← i118_2]; show _ = itX (fRq (w 1) x7) n1 5; rw [i130_2, show x8 = 5 by omega]) hW (lv_sub hl [0, 2, 3] rfl)
                              · refine lv_ldc2 hx hb (own := RL) C0.fix.2.2.2.1 (C0.w kk_L_10) dL_told_136 ?_
                                refine lv_lload_n hx hb dL_told_139 rfl (lv_at hl 2 rfl) ?_
                                refine lv_lmul hx hb dL_told_140 ?_
                                refine lv_aload_n hx hb dL_told_141 rfl (lv_at hl 3 rfl) ?_
                                refine lv_iload_n hx hb dL_told_142 rfl (lv_at hl 1 rfl) ?_
                                refine lv_iload hx hb dL_told_143 (lv_at hl 0 rfl) ?_
                                refine k_Vi (j := 0) (k0 := 0) C0 hW (c_X5_row l G w (hO) x7 x8 ⟨by omega, by omega⟩ ⟨by omega, by omega⟩) km_L_25 ki_X5_row ke_X5_row kn_X5 kc_X5_row rfl hdV_X5_row ⟨by decide, by decide⟩ (show 0 < 11 ∧ 0 < bs 0 from ⟨by decide, by decide⟩) rfl rfl rfl hl.1 rfl (Nat.le_of_ble_eq_true rfl) dL_told_145 (fun z9 w9 H1 locs1 rz9 hp9 hW => ?_)
                                have hv9 := cv_row hp9 (by omega)
                                clear hp9
                                obtain ⟨hp9, hq9⟩ := hv9
                                subst hq9
                                have rz9a := rz9.1
                                have rz9b := rz9.2
                                refine lv_i2l hx hb dL_told_148 rfl ?_
                                refine lv_ladd hx hb dL_told_149 ?_
                                refine lv_lstore_n (lv' := [(1, .long ((31 * q1) + (iI z9).toInt64)), (4, .int (iI x8)), (3, .int (iI x7)), (0, .ref (ad G 0 0))]) hx hb dL_told_150 rfl hl (by decide) rfl (fun ls hl => ?_)
                                refine r_iinc (lv' := [(4, .int (iI (x8 + 1))), (1, .long ((31 * q1) + (iI z9).toInt64)), (3, .int (iI x7)), (0, .ref (ad G 0 0))]) hx hb dL_told_151 hl (k := 1) rfl (by decide) rfl (fun ls hl => ?_)
                                refine lv_goto (tgt := 130) hx hb dL_told_154 (by decide) ?_
                                exact ih130 ((31 * q1) + (iI z9).toInt64) (x8 + 1) _ _ ls (by omega) (by omega) (by omega) (by rw [itX_s _ _ i130_0, ← i130_2]; show _ = 31 * q1 + _; rw [hp9]) hW (lv_sub hl [0, 2, 1, 3] rfl)
                          exact hL130 121 n1 0 _ _ ls (by omega) (by omega) (by omega) (by rw [itX_0]) hW (lv_sub hl [0, 1, 2, 3] rfl)
                    exact hL118 121 k1 0 _ _ ls (by omega) (by omega) (by omega) (by rw [itX_0, i78_2, show x6 = 20 by omega]) hW (lv_sub hl [0, 1, 2] rfl)
                  · refine lv_ldc2 hx hb (own := RL) C0.fix.2.2.2.1 (C0.w kk_L_10) dL_told_84 ?_
                    refine lv_ldc2 hx hb (own := RL) C0.fix.2.2.2.1 (C0.w kk_L_10) dL_told_87 ?_
                    refine lv_lload_n hx hb dL_told_90 rfl (lv_at hl 1 rfl) ?_
                    refine lv_lmul hx hb dL_told_91 ?_
                    refine lv_aload_n hx hb dL_told_92 rfl (lv_at hl 2 rfl) ?_
                    refine lv_iload_n hx hb dL_told_93 rfl (lv_at hl 0 rfl) ?_
                    refine r_iconst hx hb dL_told_94 ?_
                    refine k_Vi (j := 0) (k0 := 0) C0 hW (c_X5_plot l G w (hO) x6 0 ⟨by omega, by omega⟩ ⟨by omega, by omega⟩) km_L_22 ki_X5_plot ke_X5_plot kn_X5 kc_X5_plot rfl hdV_X5_plot ⟨by decide, by decide⟩ (show 0 < 11 ∧ 0 < bs 0 from ⟨by decide, by decide⟩) rfl rfl rfl hl.1 rfl (Nat.le_of_ble_eq_true rfl) dL_told_95 (fun z10 w10 H1 locs1 rz10 hp10 hW => ?_)
                    have hv10 := cv_plot hp10 (by omega) (by omega)
                    clear hp10
                    obtain ⟨hp10, hq10⟩ := hv10
                    subst hq10
                    have rz10a := rz10.1
                    have rz10b := rz10.2
                    refine lv_i2l hx hb dL_told_98 rfl ?_
                    refine lv_ladd hx hb dL_told_99 ?_
                    refine lv_lmul hx hb dL_told_100 ?_
                    refine lv_aload_n hx hb dL_told_101 rfl (lv_at hl 2 rfl) ?_
                    refine lv_iload_n hx hb dL_told_102 rfl (lv_at hl 0 rfl) ?_
                    refine r_iconst hx hb dL_told_103 ?_
                    refine k_Vi (j := 0) (k0 := 0) C0 hW (c_X5_plot l G w (hO) x6 2 ⟨by omega, by omega⟩ ⟨by omega, by omega⟩) km_L_22 ki_X5_plot ke_X5_plot kn_X5 kc_X5_plot rfl hdV_X5_plot ⟨by decide, by decide⟩ (show 0 < 11 ∧ 0 < bs 0 from ⟨by decide, by decide⟩) rfl rfl rfl hl.1 rfl (Nat.le_of_ble_eq_true rfl) dL_told_104 (fun z11 w11 H1 locs1 rz11 hp11 hW => ?_)
                    have hv11 := cv_plot hp11 (by omega) (by omega)
                    clear hp11
                    obtain ⟨hp11, hq11⟩ := hv11
                    subst hq11
                    have rz11a := rz11.1
                    have rz11b := rz11.2
                    refine lv_i2l hx hb dL_told_107 rfl ?_
                    refine lv_ladd hx hb dL_told_108 ?_
                    refine lv_lstore_n (lv' := [(1, .long ((31 * ((31 * k1) + (iI z10).toInt64)) + (iI z11).toInt64)), (3, .int (iI x6)), (0, .ref (ad G 0 0))]) hx hb dL_told_109 rfl hl (by decide) rfl (fun ls hl => ?_)
                    refine r_iinc (lv' := [(3, .int (iI (x6 + 1))), (1, .long ((31 * ((31 * k1) + (iI z10).toInt64)) + (iI z11).toInt64)), (0, .ref (ad G 0 0))]) hx hb dL_told_110 hl (k := 1) rfl (by decide) rfl (fun ls hl => ?_)
                    refine lv_goto (tgt := 78) hx hb dL_told_113 (by decide) ?_
                    exact ih78 ((31 * ((31 * k1) + (iI z10).toInt64)) + (iI z11).toInt64) (x6 + 1) _ _ ls (by omega) (by omega) (by omega) (by rw [itX_s _ _ i78_0, ← i78_2]; show _ = 31 * (31 * k1 + _) + _; rw [hp10, hp11]) hW (lv_sub hl [0, 1, 2] rfl)
              exact hL78 21 u1 0 _ _ ls (by omega) (by omega) (by omega) (by rw [itX_0, i33_2, show x4 = 10 by omega]) hW (lv_sub hl [0, 1, 2] rfl)
            · refine r_iconst hx hb dL_told_39 ?_
              refine lv_istore (lv' := [(4, .int (iI 0)), (3, .int (iI x4)), (1, .long u1), (0, .ref (ad G 0 0))]) hx hb dL_told_40 hl (by decide) rfl (fun ls hl => ?_)
              have hL42 : ∀ (n : Nat) (v1 : Int64) (x5 : Int) (H0 : Heap) (locs0 : List Loc) (ls : Array Slot) (hm : 8 - x5 < (n : Int)) (i42_0 : 0 ≤ x5) (i42_1 : x5 ≤ 8) (i42_2 : v1 = itX (fKq (w 1) x4) (u1) x5) (hW : wo G w s H0 locs0) (hl : lv_has ls 5 [(4, .int (iI x5)), (3, .int (iI x4)), (1, .long v1), (0, .ref (ad G 0 0))]), W p l e (rmL 6 123) s m args below meth c H0 locs0 0 0 (QL G (po_L_told w b0 b1 b2 b3) below args s) (F0 m 42 ls []) := by
                intro n
                induction n with
                | zero =>
                  intro v1 x5 H0 locs0 ls hm i42_0 i42_1 i42_2 hW hl
                  exact absurd hm (by omega)
                | succ n ih42 =>
                  intro v1 x5 H0 locs0 ls hm i42_0 i42_1 i42_2 hW hl
                  refine lv_iload hx hb dL_told_42 (lv_at hl 0 rfl) ?_
                  refine r_bipush hx hb dL_told_44 (by decide) ?_
                  refine r_icmp_ge (tgt := 70) hx hb ⟨by omega, by omega⟩ ⟨by omega, by omega⟩ dL_told_46 (by decide) (fun c12 => ?_) (fun c12 => ?_)
                  · refine r_iinc (lv' := [(3, .int (iI (x4 + 1))), (4, .int (iI x5)), (1, .long v1), (0, .ref (ad G 0 0))]) hx hb dL_told_70 hl (k := 1) rfl (by decide) rfl (fun ls hl => ?_)
                    refine lv_goto (tgt := 33) hx hb dL_told_73 (by decide) ?_
                    exact ih33 v1 (x4 + 1) _ _ ls (by omega) (by omega) (by omega) (by rw [itX_s _ _ i33_0, ← i33_2]; show _ = itX (fKq (w 1) x4) u1 8; rw [i42_2, show x5 = 8 by omega]) hW (lv_sub hl [0, 2, 3] rfl)
                  · refine lv_ldc2 hx hb (own := RL) C0.fix.2.2.2.1 (C0.w kk_L_10) dL_told_49 ?_
                    refine lv_lload_n hx hb dL_told_52 rfl (lv_at hl 2 rfl) ?_
                    refine lv_lmul hx hb dL_told_53 ?_
                    refine lv_aload_n hx hb dL_told_54 rfl (lv_at hl 3 rfl) ?_
                    refine lv_iload_n hx hb dL_told_55 rfl (lv_at hl 1 rfl) ?_
                    refine lv_iload hx hb dL_told_56 (lv_at hl 0 rfl) ?_
                    refine k_Vi (j := 0) (k0 := 0) C0 hW (c_X5_commoner l G w (hO) x4 x5 ⟨by omega, by omega⟩ ⟨by omega, by omega⟩) km_L_18 ki_X5_commoner ke_X5_commoner kn_X5 kc_X5_commoner rfl hdV_X5_commoner ⟨by decide, by decide⟩ (show 0 < 11 ∧ 0 < bs 0 from ⟨by decide, by decide⟩) rfl rfl rfl hl.1 rfl (Nat.le_of_ble_eq_true rfl) dL_told_58 (fun z13 w13 H1 locs1 rz13 hp13 hW => ?_)
                    have hv13 := cv_com7 hp13 (by omega) (by omega)
                    clear hp13
                    obtain ⟨hp13, hq13⟩ := hv13
                    subst hq13
                    have rz13a := rz13.1
                    have rz13b := rz13.2
                    refine lv_i2l hx hb dL_told_61 rfl ?_
                    refine lv_ladd hx hb dL_told_62 ?_
                    refine lv_lstore_n (lv' := [(1, .long ((31 * v1) + (iI z13).toInt64)), (4, .int (iI x5)), (3, .int (iI x4)), (0, .ref (ad G 0 0))]) hx hb dL_told_63 rfl hl (by decide) rfl (fun ls hl => ?_)
                    refine r_iinc (lv' := [(4, .int (iI (x5 + 1))), (1, .long ((31 * v1) + (iI z13).toInt64)), (3, .int (iI x4)), (0, .ref (ad G 0 0))]) hx hb dL_told_64 hl (k := 1) rfl (by decide) rfl (fun ls hl => ?_)
                    refine lv_goto (tgt := 42) hx hb dL_told_67 (by decide) ?_
                    exact ih42 ((31 * v1) + (iI z13).toInt64) (x5 + 1) _ _ ls (by omega) (by omega) (by omega) (by rw [itX_s _ _ i42_0, ← i42_2]; show _ = 31 * v1 + _; rw [hp13]) hW (lv_sub hl [0, 2, 1, 3] rfl)
              exact hL42 121 u1 0 _ _ ls (by omega) (by omega) (by omega) (by rw [itX_0]) hW (lv_sub hl [0, 1, 2, 3] rfl)
        exact hL33 21 y1 0 _ _ ls (by omega) (by omega) (by omega) (by rw [itX_0, i6_2, show x3 = 13 by omega]) hW (lv_sub hl [0, 1, 2] rfl)
      · refine lv_ldc2 hx hb (own := RL) C0.fix.2.2.2.1 (C0.w kk_L_10) dL_told_12 ?_
        refine lv_lload_n hx hb dL_told_15 rfl (lv_at hl 1 rfl) ?_
        refine lv_lmul hx hb dL_told_16 ?_
        refine lv_aload_n hx hb dL_told_17 rfl (lv_at hl 2 rfl) ?_
        refine lv_iload_n hx hb dL_told_18 rfl (lv_at hl 0 rfl) ?_
        refine k_Vi (j := 0) (k0 := 0) C0 hW (c_X5_count l G w (hO) x3 ⟨by omega, by omega⟩) km_L_12 ki_X5_count ke_X5_count kn_X5 kc_X5_count rfl hdV_X5_count ⟨by decide, by decide⟩ (show 0 < 11 ∧ 0 < bs 0 from ⟨by decide, by decide⟩) rfl rfl rfl hl.1 rfl (Nat.le_of_ble_eq_true rfl) dL_told_19 (fun z14 w14 H1 locs1 rz14 hp14 hW => ?_)
        have hv14 := cv_count hp14 (by omega)
        clear hp14
        obtain ⟨hp14, hq14⟩ := hv14
        subst hq14
        have rz14a := rz14.1
        have rz14b := rz14.2
        refine lv_i2l hx hb dL_told_22 rfl ?_
        refine lv_ladd hx hb dL_told_23 ?_
        refine lv_lstore_n (lv' := [(1, .long ((31 * y1) + (iI z14).toInt64)), (3, .int (iI x3)), (0, .ref (ad G 0 0))]) hx hb dL_told_24 rfl hl (by decide) rfl (fun ls hl => ?_)
        refine r_iinc (lv' := [(3, .int (iI (x3 + 1))), (1, .long ((31 * y1) + (iI z14).toInt64)), (0, .ref (ad G 0 0))]) hx hb dL_told_25 hl (k := 1) rfl (by decide) rfl (fun ls hl => ?_)
        refine lv_goto (tgt := 6) hx hb dL_told_28 (by decide) ?_
        exact ih6 ((31 * y1) + (iI z14).toInt64) (x3 + 1) _ _ ls (by omega) (by omega) (by omega) (by rw [itX_s _ _ i6_0, ← i6_2]; show _ = 31 * y1 + _; rw [hp14]) hW (lv_sub hl [0, 1, 2] rfl)
  exact hL6 121 3 0 _ _ ls (by omega) (by omega) (by omega) (by rw [itX_0]) hW (lv_sub hl [0, 1, 2] rfl)
