/-- X4_countLying: its end -/
def po_X4_countLying (w : gW) (j : Nat) : Int → gW → Prop := fun z w1 => (z = cntI (pLy (w j)) (gN (w j) 7 6)) ∧ w = w1
theorem hdV_X4_countLying : yX4_countLying.cls = RX4 ∧ yX4_countLying.cls ≠ "java/lang/invoke/MethodHandle" ∧ yX4_countLying.cls ≠ "java/lang/invoke/VarHandle" ∧ (parseMethodDescriptor yX4_countLying.desc).map (fun d => d.parameters.length) = some 0 := by decide +kernel
set_option maxHeartbeats 4000000 in
set_option maxRecDepth 100000 in
theorem c_X4_countLying (l : Launch) (G : gG) (w : gW) {j : Nat} (hj : ms j) (hwf : wf (w j)) : mI l G yX4_countLying (wU yX4_countLying cX4_countLying 4 (some .int)) (rmL 2 34) [.ref (ad G j 7)] w (po_X4_countLying w j) := by
  refine mI_of (by decide +kernel) (Nat.le_of_ble_eq_true rfl) (fun p e s m args below meth c ls C0 hW hl => ?_)
  have hl : lv_has ls 4 [(0, .ref (ad G j 7))] := hl
  have hx := C0.hx
  have hb := C0.hb
  obtain ⟨⟨hs1, hs2⟩, -⟩ := id hwf
  refine r_iconst hx hb dX4_countLying_0 ?_
  refine lv_istore_n (lv' := [(1, .int (iI 0)), (0, .ref (ad G j 7))]) hx hb dX4_countLying_1 rfl hl (by decide) rfl (fun ls hl => ?_)
  refine r_iconst hx hb dX4_countLying_2 ?_
  refine lv_istore_n (lv' := [(2, .int (iI 0)), (1, .int (iI 0)), (0, .ref (ad G j 7))]) hx hb dX4_countLying_3 rfl hl (by decide) rfl (fun ls hl => ?_)
  refine lv_aload_n hx hb dX4_countLying_4 rfl (lv_at hl 2 rfl) ?_
  refine k_Vi (j := j) (k0 := 7) C0 hW (c_X4_end l G w hj hwf) km_X4_53 ki_X4_end ke_X4_end kn_X4 kc_X4_end rfl hdV_X4_end ⟨by decide, by decide⟩ (ms_lt hj 7 (by decide)) (ceX_m hj G 7 _ _) rfl rfl hl.1 rfl (Nat.le_of_ble_eq_true rfl) dX4_countLying_5 (fun z1 w1 H1 locs1 rz1 hp1 hW => ?_)
  obtain ⟨hp1, hq1⟩ := hp1
  subst hq1
  have rz1a := rz1.1
  have rz1b := rz1.2
  refine lv_istore_n (lv' := [(3, .int (iI z1)), (2, .int (iI 0)), (1, .int (iI 0)), (0, .ref (ad G j 7))]) hx hb dX4_countLying_8 rfl hl (by decide) rfl (fun ls hl => ?_)
  have hL9 : ∀ (n : Nat) (x1 : Int) (x2 : Int) (H0 : Heap) (locs0 : List Loc) (ls : Array Slot) (hm : gN (w j) 7 6 - x2 < (n : Int)) (i9_0 : 0 ≤ x2) (i9_1 : x2 ≤ gN (w j) 7 6) (i9_2 : x1 = cntI (pLy (w j)) x2) (hW : wo G w s H0 locs0) (hl : lv_has ls 4 [(3, .int (iI z1)), (2, .int (iI x2)), (1, .int (iI x1)), (0, .ref (ad G j 7))]), W p l e (rmL 2 34) s m args below meth c H0 locs0 0 0 (QI G (po_X4_countLying w j) below args s) (F0 m 9 ls []) := by
    intro n
    induction n with
    | zero =>
      intro x1 x2 H0 locs0 ls hm i9_0 i9_1 i9_2 hW hl
      exact absurd hm (by omega)
    | succ n ih9 =>
      intro x1 x2 H0 locs0 ls hm i9_0 i9_1 i9_2 hW hl
      have hcl := cntI_le (pLy (w j)) i9_0
      refine lv_iload_n hx hb dX4_countLying_9 rfl (lv_at hl 1 rfl) ?_
      refine lv_iload_n hx hb dX4_countLying_10 rfl (lv_at hl 0 rfl) ?_
      refine r_icmp_ge (tgt := 32) hx hb ⟨by omega, by omega⟩ rz1 dX4_countLying_11 (by decide) (fun c2 => ?_) (fun c2 => ?_)
      · refine lv_iload_n hx hb dX4_countLying_32 rfl (lv_at hl 2 rfl) ?_
        exact r_iret C0 hW ⟨by omega, by omega⟩ (⟨by rw [show gN (w j) 7 6 = x2 from by omega]; omega, rfl⟩) dX4_countLying_33
      · refine lv_iload_n hx hb dX4_countLying_14 rfl (lv_at hl 2 rfl) ?_
        refine lv_aload_n hx hb dX4_countLying_15 rfl (lv_at hl 3 rfl) ?_
        refine r_gR C0 hW (ms_lt hj 7 (by decide)) (ceX_m hj G 7 _ _) rfl hiX4 (k := 5) (by decide) kf_X4_28 rfl rfl rfl dX4_countLying_16 ?_
        refine lv_iload_n hx hb dX4_countLying_19 rfl (lv_at hl 1 rfl) ?_
        refine r_zld C0 hW (ms_lt hj 13 (by decide)) (ceX_m hj G 13 _ _) (n := 120) (by omega) (by omega) (by omega) dX4_countLying_20 (fun z3 (hz3 : z3 = gA (w j) 13 x2) rz3 => ?_)
        have rz3a := rz3.1
        have rz3b := rz3.2
        refine k_Ni (own := "") C0 hW (As := [.int (iI z3)]) (c_X5_oneIf l G w z3 rz3) C0.nst.2.2.2.2.1 ks_X5_oneIf kn_X5 kc_X5_oneIf hdS_X5_oneIf ⟨by decide, by decide⟩ rfl hl.1 rfl (Nat.le_of_ble_eq_true rfl) dX4_countLying_21 (fun z4 w4 H1 locs1 rz4 hp4 hW => ?_)
        obtain ⟨hp4, hq4⟩ := hp4
        subst hq4
        have rz4a := rz4.1
        have rz4b := rz4.2
        rcases hp4 with ⟨e4, hp4⟩ | ⟨e4, hp4⟩
        · subst e4
          refine r_iadd hx hb dX4_countLying_24 ?_
          refine lv_istore_n (lv' := [(1, .int (iI (x1 + 1))), (3, .int (iI z1)), (2, .int (iI x2)), (0, .ref (ad G j 7))]) hx hb dX4_countLying_25 rfl hl (by decide) rfl (fun ls hl => ?_)
          refine r_iinc (lv' := [(2, .int (iI (x2 + 1))), (1, .int (iI (x1 + 1))), (3, .int (iI z1)), (0, .ref (ad G j 7))]) hx hb dX4_countLying_26 hl (k := 2) rfl (by decide) rfl (fun ls hl => ?_)
          refine lv_goto (tgt := 9) hx hb dX4_countLying_29 (by decide) ?_
          exact ih9 (x1 + 1) (x2 + 1) _ _ ls (by omega) (by omega) (by omega) (by first | (rw [cntI_t (by omega) (by first | assumption | (unfold pLy at *; omega))]; omega) | (rw [cntI_f (by omega) (by first | assumption | (unfold pLy at *; omega))]; omega)) hW (lv_sub hl [2, 0, 1, 3] rfl)
        · subst e4
          refine r_iadd hx hb dX4_countLying_24 ?_
          refine lv_istore_n (lv' := [(1, .int (iI (x1 + 0))), (3, .int (iI z1)), (2, .int (iI x2)), (0, .ref (ad G j 7))]) hx hb dX4_countLying_25 rfl hl (by decide) rfl (fun ls hl => ?_)
          refine r_iinc (lv' := [(2, .int (iI (x2 + 1))), (1, .int (iI (x1 + 0))), (3, .int (iI z1)), (0, .ref (ad G j 7))]) hx hb dX4_countLying_26 hl (k := 2) rfl (by decide) rfl (fun ls hl => ?_)
          refine lv_goto (tgt := 9) hx hb dX4_countLying_29 (by decide) ?_
          exact ih9 (x1 + 0) (x2 + 1) _ _ ls (by omega) (by omega) (by omega) (by first | (rw [cntI_t (by omega) (by first | assumption | (unfold pLy at *; omega))]; omega) | (rw [cntI_f (by omega) (by first | assumption | (unfold pLy at *; omega))]; omega)) hW (lv_sub hl [2, 0, 1, 3] rfl)
  exact hL9 121 0 0 _ _ ls (by omega) (by omega) (by omega) (by rw [cntI_0]) hW (lv_sub hl [0, 1, 2, 3] rfl)

/-- X4_countStacked: its end -/
def po_X4_countStacked (w : gW) (j : Nat) : Int → gW → Prop := fun z w1 => (z = cntI (pSt (w j)) (gN (w j) 7 6)) ∧ w = w1
theorem hdV_X4_countStacked : yX4_countStacked.cls = RX4 ∧ yX4_countStacked.cls ≠ "java/lang/invoke/MethodHandle" ∧ yX4_countStacked.cls ≠ "java/lang/invoke/VarHandle" ∧ (parseMethodDescriptor yX4_countStacked.desc).map (fun d => d.parameters.length) = some 0 := by decide +kernel
set_option maxHeartbeats 4000000 in
set_option maxRecDepth 100000 in
theorem c_X4_countStacked (l : Launch) (G : gG) (w : gW) {j : Nat} (hj : ms j) (hwf : wf (w j)) : mI l G yX4_countStacked (wU yX4_countStacked cX4_countStacked 4 (some .int)) (rmL 4 76) [.ref (ad G j 7)] w (po_X4_countStacked w j) := by
  refine mI_of (by decide +kernel) (Nat.le_of_ble_eq_true rfl) (fun p e s m args below meth c ls C0 hW hl => ?_)
  have hl : lv_has ls 4 [(0, .ref (ad G j 7))] := hl
  have hx := C0.hx
  have hb := C0.hb
  obtain ⟨⟨hs1, hs2⟩, -⟩ := id hwf
  refine r_iconst hx hb dX4_countStacked_0 ?_
  refine lv_istore_n (lv' := [(1, .int (iI 0)), (0, .ref (ad G j 7))]) hx hb dX4_countStacked_1 rfl hl (by decide) rfl (fun ls hl => ?_)
  refine r_iconst hx hb dX4_countStacked_2 ?_
  refine lv_istore_n (lv' := [(2, .int (iI 0)), (1, .int (iI 0)), (0, .ref (ad G j 7))]) hx hb dX4_countStacked_3 rfl hl (by decide) rfl (fun ls hl => ?_)
  refine lv_aload_n hx hb dX4_countStacked_4 rfl (lv_at hl 2 rfl) ?_
  refine k_Vi (j := j) (k0 := 7) C0 hW (c_X4_end l G w hj hwf) km_X4_53 ki_X4_end ke_X4_end kn_X4 kc_X4_end rfl hdV_X4_end ⟨by decide, by decide⟩ (ms_lt hj 7 (by decide)) (ceX_m hj G 7 _ _) rfl rfl hl.1 rfl (Nat.le_of_ble_eq_true rfl) dX4_countStacked_5 (fun z1 w1 H1 locs1 rz1 hp1 hW => ?_)
  obtain ⟨hp1, hq1⟩ := hp1
  subst hq1
  have rz1a := rz1.1
  have rz1b := rz1.2
  refine lv_istore_n (lv' := [(3, .int (iI z1)), (2, .int (iI 0)), (1, .int (iI 0)), (0, .ref (ad G j 7))]) hx hb dX4_countStacked_8 rfl hl (by decide) rfl (fun ls hl => ?_)
  have hL9 : ∀ (n : Nat) (x1 : Int) (x2 : Int) (H0 : Heap) (locs0 : List Loc) (ls : Array Slot) (hm : gN (w j) 7 6 - x2 < (n : Int)) (i9_0 : 0 ≤ x2) (i9_1 : x2 ≤ gN (w j) 7 6) (i9_2 : x1 = cntI (pSt (w j)) x2) (hW : wo G w s H0 locs0) (hl : lv_has ls 4 [(3, .int (iI z1)), (2, .int (iI x2)), (1, .int (iI x1)), (0, .ref (ad G j 7))]), W p l e (rmL 4 76) s m args below meth c H0 locs0 0 0 (QI G (po_X4_countStacked w j) below args s) (F0 m 9 ls []) := by
    intro n
    induction n with
    | zero =>
      intro x1 x2 H0 locs0 ls hm i9_0 i9_1 i9_2 hW hl
      exact absurd hm (by omega)
    | succ n ih9 =>
      intro x1 x2 H0 locs0 ls hm i9_0 i9_1 i9_2 hW hl
      have hcl := cntI_le (pSt (w j)) i9_0
      refine lv_iload_n hx hb dX4_countStacked_9 rfl (lv_at hl 1 rfl) ?_
      refine lv_iload_n hx hb dX4_countStacked_10 rfl (lv_at hl 0 rfl) ?_
      refine r_icmp_ge (tgt := 31) hx hb ⟨by omega, by omega⟩ rz1 dX4_countStacked_11 (by decide) (fun c2 => ?_) (fun c2 => ?_)
      · refine lv_iload_n hx hb dX4_countStacked_31 rfl (lv_at hl 2 rfl) ?_
        exact r_iret C0 hW ⟨by omega, by omega⟩ (⟨by rw [show gN (w j) 7 6 = x2 from by omega]; omega, rfl⟩) dX4_countStacked_32
      · refine lv_iload_n hx hb dX4_countStacked_14 rfl (lv_at hl 2 rfl) ?_
        refine lv_aload_n hx hb dX4_countStacked_15 rfl (lv_at hl 3 rfl) ?_
        refine lv_iload_n hx hb dX4_countStacked_16 rfl (lv_at hl 1 rfl) ?_
        refine k_Vi (j := j) (k0 := 7) C0 hW (c_X4_isStacked l G w hj hwf x2 ⟨by omega, by omega⟩) km_X4_72 ki_X4_isStacked ke_X4_isStacked kn_X4 kc_X4_isStacked rfl hdV_X4_isStacked ⟨by decide, by decide⟩ (ms_lt hj 7 (by decide)) (ceX_m hj G 7 _ _) rfl rfl hl.1 rfl (Nat.le_of_ble_eq_true rfl) dX4_countStacked_17 (fun z3 w3 H1 locs1 rz3 hp3 hW => ?_)
        obtain ⟨hp3, hq3⟩ := hp3
        subst hq3
        have rz3a := rz3.1
        have rz3b := rz3.2
        rcases hp3 with ⟨e3, hp3⟩ | ⟨e3, hp3⟩
        · subst e3
          refine k_Ni (own := "") C0 hW (As := [.int (iI 1)]) (c_X5_oneIf l G w 1 ⟨by omega, by omega⟩) C0.nst.2.2.2.2.1 ks_X5_oneIf kn_X5 kc_X5_oneIf hdS_X5_oneIf ⟨by decide, by decide⟩ rfl hl.1 rfl (Nat.le_of_ble_eq_true rfl) dX4_countStacked_20 (fun z4 w4 H1 locs1 rz4 hp4 hW => ?_)
          obtain ⟨hp4, hq4⟩ := hp4
          subst hq4
          have rz4a := rz4.1
          have rz4b := rz4.2
          rcases hp4 with ⟨e4, hp4⟩ | ⟨e4, hp4⟩
          · subst e4
            refine r_iadd hx hb dX4_countStacked_23 ?_
            refine lv_istore_n (lv' := [(1, .int (iI (x1 + 1))), (3, .int (iI z1)), (2, .int (iI x2)), (0, .ref (ad G j 7))]) hx hb dX4_countStacked_24 rfl hl (by decide) rfl (fun ls hl => ?_)
            refine r_iinc (lv' := [(2, .int (iI (x2 + 1))), (1, .int (iI (x1 + 1))), (3, .int (iI z1)), (0, .ref (ad G j 7))]) hx hb dX4_countStacked_25 hl (k := 2) rfl (by decide) rfl (fun ls hl => ?_)
            refine lv_goto (tgt := 9) hx hb dX4_countStacked_28 (by decide) ?_
            exact ih9 (x1 + 1) (x2 + 1) _ _ ls (by omega) (by omega) (by omega) (by first | (rw [cntI_t (by omega) (by first | assumption | (unfold pSt lyi at *; omega))]; omega) | (rw [cntI_f (by omega) (by first | assumption | (unfold pSt lyi at *; omega))]; omega)) hW (lv_sub hl [2, 0, 1, 3] rfl)
          · subst e4
            refine r_iadd hx hb dX4_countStacked_23 ?_
            refine lv_istore_n (lv' := [(1, .int (iI (x1 + 0))), (3, .int (iI z1)), (2, .int (iI x2)), (0, .ref (ad G j 7))]) hx hb dX4_countStacked_24 rfl hl (by decide) rfl (fun ls hl => ?_)
            refine r_iinc (lv' := [(2, .int (iI (x2 + 1))), (1, .int (iI (x1 + 0))), (3, .int (iI z1)), (0, .ref (ad G j 7))]) hx hb dX4_countStacked_25 hl (k := 2) rfl (by decide) rfl (fun ls hl => ?_)
            refine lv_goto (tgt := 9) hx hb dX4_countStacked_28 (by decide) ?_
            exact ih9 (x1 + 0) (x2 + 1) _ _ ls (by omega) (by omega) (by omega) (by first | (rw [cntI_t (by omega) (by first | assumption | (unfold pSt lyi at *; omega))]; omega) | (rw [cntI_f (by omega) (by first | assumption | (unfold pSt lyi at *; omega))]; omega)) hW (lv_sub hl [2, 0, 1, 3] rfl)
        · subst e3
          refine k_Ni (own := "") C0 hW (As := [.int (iI 0)]) (c_X5_oneIf l G w 0 ⟨by omega, by omega⟩) C0.nst.2.2.2.2.1 ks_X5_oneIf kn_X5 kc_X5_oneIf hdS_X5_oneIf ⟨by decide, by decide⟩ rfl hl.1 rfl (Nat.le_of_ble_eq_true rfl) dX4_countStacked_20 (fun z5 w5 H1 locs1 rz5 hp5 hW => ?_)
          obtain ⟨hp5, hq5⟩ := hp5
          subst hq5
          have rz5a := rz5.1
          have rz5b := rz5.2
          rcases hp5 with ⟨e5, hp5⟩ | ⟨e5, hp5⟩
          · subst e5
            refine r_iadd hx hb dX4_countStacked_23 ?_
            refine lv_istore_n (lv' := [(1, .int (iI (x1 + 1))), (3, .int (iI z1)), (2, .int (iI x2)), (0, .ref (ad G j 7))]) hx hb dX4_countStacked_24 rfl hl (by decide) rfl (fun ls hl => ?_)
            refine r_iinc (lv' := [(2, .int (iI (x2 + 1))), (1, .int (iI (x1 + 1))), (3, .int (iI z1)), (0, .ref (ad G j 7))]) hx hb dX4_countStacked_25 hl (k := 2) rfl (by decide) rfl (fun ls hl => ?_)
            refine lv_goto (tgt := 9) hx hb dX4_countStacked_28 (by decide) ?_
            exact ih9 (x1 + 1) (x2 + 1) _ _ ls (by omega) (by omega) (by omega) (by first | (rw [cntI_t (by omega) (by first | assumption | (unfold pSt lyi at *; omega))]; omega) | (rw [cntI_f (by omega) (by first | assumption | (unfold pSt lyi at *; omega))]; omega)) hW (lv_sub hl [2, 0, 1, 3] rfl)
          · subst e5
            refine r_iadd hx hb dX4_countStacked_23 ?_
            refine lv_istore_n (lv' := [(1, .int (iI (x1 + 0))), (3, .int (iI z1)), (2, .int (iI x2)), (0, .ref (ad G j 7))]) hx hb dX4_countStacked_24 rfl hl (by decide) rfl (fun ls hl => ?_)
            refine r_iinc (lv' := [(2, .int (iI (x2 + 1))), (1, .int (iI (x1 + 0))), (3, .int (iI z1)), (0, .ref (ad G j 7))]) hx hb dX4_countStacked_25 hl (k := 2) rfl (by decide) rfl (fun ls hl => ?_)
            refine lv_goto (tgt := 9) hx hb dX4_countStacked_28 (by decide) ?_
            exact ih9 (x1 + 0) (x2 + 1) _ _ ls (by omega) (by omega) (by omega) (by first | (rw [cntI_t (by omega) (by first | assumption | (unfold pSt lyi at *; omega))]; omega) | (rw [cntI_f (by omega) (by first | assumption | (unfold pSt lyi at *; omega))]; omega)) hW (lv_sub hl [2, 0, 1, 3] rfl)
  exact hL9 121 0 0 _ _ ls (by omega) (by omega) (by omega) (by rw [cntI_0]) hW (lv_sub hl [0, 1, 2, 3] rfl)

/-- X4_countDry: its end -/
def po_X4_countDry (w : gW) (j : Nat) : Int → gW → Prop := fun z w1 => (z = cntI (pDr (w j)) (gN (w j) 7 6)) ∧ w = w1
theorem hdV_X4_countDry : yX4_countDry.cls = RX4 ∧ yX4_countDry.cls ≠ "java/lang/invoke/MethodHandle" ∧ yX4_countDry.cls ≠ "java/lang/invoke/VarHandle" ∧ (parseMethodDescriptor yX4_countDry.desc).map (fun d => d.parameters.length) = some 0 := by decide +kernel
set_option maxHeartbeats 4000000 in
set_option maxRecDepth 100000 in
theorem c_X4_countDry (l : Launch) (G : gG) (w : gW) {j : Nat} (hj : ms j) (hwf : wf (w j)) : mI l G yX4_countDry (wU yX4_countDry cX4_countDry 4 (some .int)) (rmL 4 76) [.ref (ad G j 7)] w (po_X4_countDry w j) := by
  refine mI_of (by decide +kernel) (Nat.le_of_ble_eq_true rfl) (fun p e s m args below meth c ls C0 hW hl => ?_)
  have hl : lv_has ls 4 [(0, .ref (ad G j 7))] := hl
  have hx := C0.hx
  have hb := C0.hb
  obtain ⟨⟨hs1, hs2⟩, -⟩ := id hwf
  refine r_iconst hx hb dX4_countDry_0 ?_
  refine lv_istore_n (lv' := [(1, .int (iI 0)), (0, .ref (ad G j 7))]) hx hb dX4_countDry_1 rfl hl (by decide) rfl (fun ls hl => ?_)
  refine r_iconst hx hb dX4_countDry_2 ?_
  refine lv_istore_n (lv' := [(2, .int (iI 0)), (1, .int (iI 0)), (0, .ref (ad G j 7))]) hx hb dX4_countDry_3 rfl hl (by decide) rfl (fun ls hl => ?_)
  refine lv_aload_n hx hb dX4_countDry_4 rfl (lv_at hl 2 rfl) ?_
  refine k_Vi (j := j) (k0 := 7) C0 hW (c_X4_end l G w hj hwf) km_X4_53 ki_X4_end ke_X4_end kn_X4 kc_X4_end rfl hdV_X4_end ⟨by decide, by decide⟩ (ms_lt hj 7 (by decide)) (ceX_m hj G 7 _ _) rfl rfl hl.1 rfl (Nat.le_of_ble_eq_true rfl) dX4_countDry_5 (fun z1 w1 H1 locs1 rz1 hp1 hW => ?_)
  obtain ⟨hp1, hq1⟩ := hp1
  subst hq1
  have rz1a := rz1.1
  have rz1b := rz1.2
  refine lv_istore_n (lv' := [(3, .int (iI z1)), (2, .int (iI 0)), (1, .int (iI 0)), (0, .ref (ad G j 7))]) hx hb dX4_countDry_8 rfl hl (by decide) rfl (fun ls hl => ?_)
  have hL9 : ∀ (n : Nat) (x1 : Int) (x2 : Int) (H0 : Heap) (locs0 : List Loc) (ls : Array Slot) (hm : gN (w j) 7 6 - x2 < (n : Int)) (i9_0 : 0 ≤ x2) (i9_1 : x2 ≤ gN (w j) 7 6) (i9_2 : x1 = cntI (pDr (w j)) x2) (hW : wo G w s H0 locs0) (hl : lv_has ls 4 [(3, .int (iI z1)), (2, .int (iI x2)), (1, .int (iI x1)), (0, .ref (ad G j 7))]), W p l e (rmL 4 76) s m args below meth c H0 locs0 0 0 (QI G (po_X4_countDry w j) below args s) (F0 m 9 ls []) := by
    intro n
    induction n with
    | zero =>
      intro x1 x2 H0 locs0 ls hm i9_0 i9_1 i9_2 hW hl
      exact absurd hm (by omega)
    | succ n ih9 =>
      intro x1 x2 H0 locs0 ls hm i9_0 i9_1 i9_2 hW hl
      have hcl := cntI_le (pDr (w j)) i9_0
      refine lv_iload_n hx hb dX4_countDry_9 rfl (lv_at hl 1 rfl) ?_
      refine lv_iload_n hx hb dX4_countDry_10 rfl (lv_at hl 0 rfl) ?_
      refine r_icmp_ge (tgt := 31) hx hb ⟨by omega, by omega⟩ rz1 dX4_countDry_11 (by decide) (fun c2 => ?_) (fun c2 => ?_)
      · refine lv_iload_n hx hb dX4_countDry_31 rfl (lv_at hl 2 rfl) ?_
        exact r_iret C0 hW ⟨by omega, by omega⟩ (⟨by rw [show gN (w j) 7 6 = x2 from by omega]; omega, rfl⟩) dX4_countDry_32
      · refine lv_iload_n hx hb dX4_countDry_14 rfl (lv_at hl 2 rfl) ?_
        refine lv_aload_n hx hb dX4_countDry_15 rfl (lv_at hl 3 rfl) ?_
        refine lv_iload_n hx hb dX4_countDry_16 rfl (lv_at hl 1 rfl) ?_
        refine k_Vi (j := j) (k0 := 7) C0 hW (c_X4_isDry l G w hj hwf x2 ⟨by omega, by omega⟩) km_X4_75 ki_X4_isDry ke_X4_isDry kn_X4 kc_X4_isDry rfl hdV_X4_isDry ⟨by decide, by decide⟩ (ms_lt hj 7 (by decide)) (ceX_m hj G 7 _ _) rfl rfl hl.1 rfl (Nat.le_of_ble_eq_true rfl) dX4_countDry_17 (fun z3 w3 H1 locs1 rz3 hp3 hW => ?_)
        obtain ⟨hp3, hq3⟩ := hp3
        subst hq3
        have rz3a := rz3.1
        have rz3b := rz3.2
        rcases hp3 with ⟨e3, hp3⟩ | ⟨e3, hp3⟩
        · subst e3
          refine k_Ni (own := "") C0 hW (As := [.int (iI 1)]) (c_X5_oneIf l G w 1 ⟨by omega, by omega⟩) C0.nst.2.2.2.2.1 ks_X5_oneIf kn_X5 kc_X5_oneIf hdS_X5_oneIf ⟨by decide, by decide⟩ rfl hl.1 rfl (Nat.le_of_ble_eq_true rfl) dX4_countDry_20 (fun z4 w4 H1 locs1 rz4 hp4 hW => ?_)
          obtain ⟨hp4, hq4⟩ := hp4
          subst hq4
          have rz4a := rz4.1
          have rz4b := rz4.2
          rcases hp4 with ⟨e4, hp4⟩ | ⟨e4, hp4⟩
          · subst e4
            refine r_iadd hx hb dX4_countDry_23 ?_
            refine lv_istore_n (lv' := [(1, .int (iI (x1 + 1))), (3, .int (iI z1)), (2, .int (iI x2)), (0, .ref (ad G j 7))]) hx hb dX4_countDry_24 rfl hl (by decide) rfl (fun ls hl => ?_)
            refine r_iinc (lv' := [(2, .int (iI (x2 + 1))), (1, .int (iI (x1 + 1))), (3, .int (iI z1)), (0, .ref (ad G j 7))]) hx hb dX4_countDry_25 hl (k := 2) rfl (by decide) rfl (fun ls hl => ?_)
            refine lv_goto (tgt := 9) hx hb dX4_countDry_28 (by decide) ?_
            exact ih9 (x1 + 1) (x2 + 1) _ _ ls (by omega) (by omega) (by omega) (by first | (rw [cntI_t (by omega) (by first | assumption | (unfold pDr lyi at *; omega))]; omega) | (rw [cntI_f (by omega) (by first | assumption | (unfold pDr lyi at *; omega))]; omega)) hW (lv_sub hl [2, 0, 1, 3] rfl)
          · subst e4
            refine r_iadd hx hb dX4_countDry_23 ?_
            refine lv_istore_n (lv' := [(1, .int (iI (x1 + 0))), (3, .int (iI z1)), (2, .int (iI x2)), (0, .ref (ad G j 7))]) hx hb dX4_countDry_24 rfl hl (by decide) rfl (fun ls hl => ?_)
            refine r_iinc (lv' := [(2, .int (iI (x2 + 1))), (1, .int (iI (x1 + 0))), (3, .int (iI z1)), (0, .ref (ad G j 7))]) hx hb dX4_countDry_25 hl (k := 2) rfl (by decide) rfl (fun ls hl => ?_)
            refine lv_goto (tgt := 9) hx hb dX4_countDry_28 (by decide) ?_
            exact ih9 (x1 + 0) (x2 + 1) _ _ ls (by omega) (by omega) (by omega) (by first | (rw [cntI_t (by omega) (by first | assumption | (unfold pDr lyi at *; omega))]; omega) | (rw [cntI_f (by omega) (by first | assumption | (unfold pDr lyi at *; omega))]; omega)) hW (lv_sub hl [2, 0, 1, 3] rfl)
        · subst e3
          refine k_Ni (own := "") C0 hW (As := [.int (iI 0)]) (c_X5_oneIf l G w 0 ⟨by omega, by omega⟩) C0.nst.2.2.2.2.1 ks_X5_oneIf kn_X5 kc_X5_oneIf hdS_X5_oneIf ⟨by decide, by decide⟩ rfl hl.1 rfl (Nat.le_of_ble_eq_true rfl) dX4_countDry_20 (fun z5 w5 H1 locs1 rz5 hp5 hW => ?_)
          obtain ⟨hp5, hq5⟩ := hp5
          subst hq5
          have rz5a := rz5.1
          have rz5b := rz5.2
          rcases hp5 with ⟨e5, hp5⟩ | ⟨e5, hp5⟩
          · subst e5
            refine r_iadd hx hb dX4_countDry_23 ?_
            refine lv_istore_n (lv' := [(1, .int (iI (x1 + 1))), (3, .int (iI z1)), (2, .int (iI x2)), (0, .ref (ad G j 7))]) hx hb dX4_countDry_24 rfl hl (by decide) rfl (fun ls hl => ?_)
            refine r_iinc (lv' := [(2, .int (iI (x2 + 1))), (1, .int (iI (x1 + 1))), (3, .int (iI z1)), (0, .ref (ad G j 7))]) hx hb dX4_countDry_25 hl (k := 2) rfl (by decide) rfl (fun ls hl => ?_)
            refine lv_goto (tgt := 9) hx hb dX4_countDry_28 (by decide) ?_
            exact ih9 (x1 + 1) (x2 + 1) _ _ ls (by omega) (by omega) (by omega) (by first | (rw [cntI_t (by omega) (by first | assumption | (unfold pDr lyi at *; omega))]; omega) | (rw [cntI_f (by omega) (by first | assumption | (unfold pDr lyi at *; omega))]; omega)) hW (lv_sub hl [2, 0, 1, 3] rfl)
          · subst e5
            refine r_iadd hx hb dX4_countDry_23 ?_
            refine lv_istore_n (lv' := [(1, .int (iI (x1 + 0))), (3, .int (iI z1)), (2, .int (iI x2)), (0, .ref (ad G j 7))]) hx hb dX4_countDry_24 rfl hl (by decide) rfl (fun ls hl => ?_)
            refine r_iinc (lv' := [(2, .int (iI (x2 + 1))), (1, .int (iI (x1 + 0))), (3, .int (iI z1)), (0, .ref (ad G j 7))]) hx hb dX4_countDry_25 hl (k := 2) rfl (by decide) rfl (fun ls hl => ?_)
            refine lv_goto (tgt := 9) hx hb dX4_countDry_28 (by decide) ?_
            exact ih9 (x1 + 0) (x2 + 1) _ _ ls (by omega) (by omega) (by omega) (by first | (rw [cntI_t (by omega) (by first | assumption | (unfold pDr lyi at *; omega))]; omega) | (rw [cntI_f (by omega) (by first | assumption | (unfold pDr lyi at *; omega))]; omega)) hW (lv_sub hl [2, 0, 1, 3] rfl)
  exact hL9 121 0 0 _ _ ls (by omega) (by omega) (by omega) (by rw [cntI_0]) hW (lv_sub hl [0, 1, 2, 3] rfl)

/-- X4_countLyingOf: its end -/
def po_X4_countLyingOf (w : gW) (j : Nat) (co : Int) : Int → gW → Prop := fun z w1 => (z = cntI (pOf (w j) co) (gN (w j) 7 6)) ∧ w = w1
theorem hdV_X4_countLyingOf : yX4_countLyingOf.cls = RX4 ∧ yX4_countLyingOf.cls ≠ "java/lang/invoke/MethodHandle" ∧ yX4_countLyingOf.cls ≠ "java/lang/invoke/VarHandle" ∧ (parseMethodDescriptor yX4_countLyingOf.desc).map (fun d => d.parameters.length) = some 1 := by decide +kernel
set_option maxHeartbeats 4000000 in
set_option maxRecDepth 100000 in
theorem c_X4_countLyingOf (l : Launch) (G : gG) (w : gW) {j : Nat} (hj : ms j) (hwf : wf (w j)) (co : Int) (rco : inR co) : mI l G yX4_countLyingOf (wU yX4_countLyingOf cX4_countLyingOf 5 (some .int)) (rmL 4 77) [.ref (ad G j 7), .int (iI co)] w (po_X4_countLyingOf w j co) := by
  refine mI_of (by decide +kernel) (Nat.le_of_ble_eq_true rfl) (fun p e s m args below meth c ls C0 hW hl => ?_)
  have hl : lv_has ls 5 [(0, .ref (ad G j 7)), (1, .int (iI co))] := hl
  have hx := C0.hx
  have hb := C0.hb
  obtain ⟨⟨hs1, hs2⟩, -⟩ := id hwf
  refine r_iconst hx hb dX4_countLyingOf_0 ?_
  refine lv_istore_n (lv' := [(2, .int (iI 0)), (0, .ref (ad G j 7)), (1, .int (iI co))]) hx hb dX4_countLyingOf_1 rfl hl (by decide) rfl (fun ls hl => ?_)
  refine r_iconst hx hb dX4_countLyingOf_2 ?_
  refine lv_istore_n (lv' := [(3, .int (iI 0)), (2, .int (iI 0)), (0, .ref (ad G j 7)), (1, .int (iI co))]) hx hb dX4_countLyingOf_3 rfl hl (by decide) rfl (fun ls hl => ?_)
  refine lv_aload_n hx hb dX4_countLyingOf_4 rfl (lv_at hl 2 rfl) ?_
  refine k_Vi (j := j) (k0 := 7) C0 hW (c_X4_end l G w hj hwf) km_X4_53 ki_X4_end ke_X4_end kn_X4 kc_X4_end rfl hdV_X4_end ⟨by decide, by decide⟩ (ms_lt hj 7 (by decide)) (ceX_m hj G 7 _ _) rfl rfl hl.1 rfl (Nat.le_of_ble_eq_true rfl) dX4_countLyingOf_5 (fun z1 w1 H1 locs1 rz1 hp1 hW => ?_)
  obtain ⟨hp1, hq1⟩ := hp1
  subst hq1
  have rz1a := rz1.1
  have rz1b := rz1.2
  refine lv_istore (lv' := [(4, .int (iI z1)), (3, .int (iI 0)), (2, .int (iI 0)), (0, .ref (ad G j 7)), (1, .int (iI co))]) hx hb dX4_countLyingOf_8 hl (by decide) rfl (fun ls hl => ?_)
  have hL10 : ∀ (n : Nat) (x2 : Int) (x3 : Int) (H0 : Heap) (locs0 : List Loc) (ls : Array Slot) (hm : gN (w j) 7 6 - x3 < (n : Int)) (i10_0 : 0 ≤ x3) (i10_1 : x3 ≤ gN (w j) 7 6) (i10_2 : x2 = cntI (pOf (w j) co) x3) (hW : wo G w s H0 locs0) (hl : lv_has ls 5 [(4, .int (iI z1)), (3, .int (iI x3)), (2, .int (iI x2)), (0, .ref (ad G j 7)), (1, .int (iI co))]), W p l e (rmL 4 77) s m args below meth c H0 locs0 0 0 (QI G (po_X4_countLyingOf w j co) below args s) (F0 m 10 ls []) := by
    intro n
    induction n with
    | zero =>
      intro x2 x3 H0 locs0 ls hm i10_0 i10_1 i10_2 hW hl
      exact absurd hm (by omega)
    | succ n ih10 =>
      intro x2 x3 H0 locs0 ls hm i10_0 i10_1 i10_2 hW hl
      have hcl := cntI_le (pOf (w j) co) i10_0
      refine lv_iload_n hx hb dX4_countLyingOf_10 rfl (lv_at hl 1 rfl) ?_
      refine lv_iload hx hb dX4_countLyingOf_11 (lv_at hl 0 rfl) ?_
      refine r_icmp_ge (tgt := 34) hx hb ⟨by omega, by omega⟩ rz1 dX4_countLyingOf_13 (by decide) (fun c2 => ?_) (fun c2 => ?_)
      · refine lv_iload_n hx hb dX4_countLyingOf_34 rfl (lv_at hl 2 rfl) ?_
        exact r_iret C0 hW ⟨by omega, by omega⟩ (⟨by rw [show gN (w j) 7 6 = x3 from by omega]; omega, rfl⟩) dX4_countLyingOf_35
      · refine lv_iload_n hx hb dX4_countLyingOf_16 rfl (lv_at hl 2 rfl) ?_
        refine lv_aload_n hx hb dX4_countLyingOf_17 rfl (lv_at hl 3 rfl) ?_
        refine lv_iload_n hx hb dX4_countLyingOf_18 rfl (lv_at hl 1 rfl) ?_
        refine lv_iload_n hx hb dX4_countLyingOf_19 rfl (lv_at hl 4 rfl) ?_
        refine k_Vi (j := j) (k0 := 7) C0 hW (c_X4_isLyingOf l G w hj hwf x3 co ⟨by omega, by omega⟩ rco) km_X4_78 ki_X4_isLyingOf ke_X4_isLyingOf kn_X4 kc_X4_isLyingOf rfl hdV_X4_isLyingOf ⟨by decide, by decide⟩ (ms_lt hj 7 (by decide)) (ceX_m hj G 7 _ _) rfl rfl hl.1 rfl (Nat.le_of_ble_eq_true rfl) dX4_countLyingOf_20 (fun z3 w3 H1 locs1 rz3 hp3 hW => ?_)
        obtain ⟨hp3, hq3⟩ := hp3
        subst hq3
        have rz3a := rz3.1
        have rz3b := rz3.2
        rcases hp3 with ⟨e3, hp3⟩ | ⟨e3, hp3⟩
        · subst e3
          refine k_Ni (own := "") C0 hW (As := [.int (iI 1)]) (c_X5_oneIf l G w 1 ⟨by omega, by omega⟩) C0.nst.2.2.2.2.1 ks_X5_oneIf kn_X5 kc_X5_oneIf hdS_X5_oneIf ⟨by decide, by decide⟩ rfl hl.1 rfl (Nat.le_of_ble_eq_true rfl) dX4_countLyingOf_23 (fun z4 w4 H1 locs1 rz4 hp4 hW => ?_)
          obtain ⟨hp4, hq4⟩ := hp4
          subst hq4
          have rz4a := rz4.1
          have rz4b := rz4.2
          rcases hp4 with ⟨e4, hp4⟩ | ⟨e4, hp4⟩
          · subst e4
            refine r_iadd hx hb dX4_countLyingOf_26 ?_
            refine lv_istore_n (lv' := [(2, .int (iI (x2 + 1))), (4, .int (iI z1)), (3, .int (iI x3)), (0, .ref (ad G j 7)), (1, .int (iI co))]) hx hb dX4_countLyingOf_27 rfl hl (by decide) rfl (fun ls hl => ?_)
            refine r_iinc (lv' := [(3, .int (iI (x3 + 1))), (2, .int (iI (x2 + 1))), (4, .int (iI z1)), (0, .ref (ad G j 7)), (1, .int (iI co))]) hx hb dX4_countLyingOf_28 hl (k := 2) rfl (by decide) rfl (fun ls hl => ?_)
            refine lv_goto (tgt := 10) hx hb dX4_countLyingOf_31 (by decide) ?_
            exact ih10 (x2 + 1) (x3 + 1) _ _ ls (by omega) (by omega) (by omega) (by first | (rw [cntI_t (by omega) (by first | assumption | (unfold pOf lyi at *; omega))]; omega) | (rw [cntI_f (by omega) (by first | assumption | (unfold pOf lyi at *; omega))]; omega)) hW (lv_sub hl [2, 0, 1, 3, 4] rfl)
          · subst e4
            refine r_iadd hx hb dX4_countLyingOf_26 ?_
            refine lv_istore_n (lv' := [(2, .int (iI (x2 + 0))), (4, .int (iI z1)), (3, .int (iI x3)), (0, .ref (ad G j 7)), (1, .int (iI co))]) hx hb dX4_countLyingOf_27 rfl hl (by decide) rfl (fun ls hl => ?_)
            refine r_iinc (lv' := [(3, .int (iI (x3 + 1))), (2, .int (iI (x2 + 0))), (4, .int (iI z1)), (0, .ref (ad G j 7)), (1, .int (iI co))]) hx hb dX4_countLyingOf_28 hl (k := 2) rfl (by decide) rfl (fun ls hl => ?_)
            refine lv_goto (tgt := 10) hx hb dX4_countLyingOf_31 (by decide) ?_
            exact ih10 (x2 + 0) (x3 + 1) _ _ ls (by omega) (by omega) (by omega) (by first | (rw [cntI_t (by omega) (by first | assumption | (unfold pOf lyi at *; omega))]; omega) | (rw [cntI_f (by omega) (by first | assumption | (unfold pOf lyi at *; omega))]; omega)) hW (lv_sub hl [2, 0, 1, 3, 4] rfl)
        · subst e3
          refine k_Ni (own := "") C0 hW (As := [.int (iI 0)]) (c_X5_oneIf l G w 0 ⟨by omega, by omega⟩) C0.nst.2.2.2.2.1 ks_X5_oneIf kn_X5 kc_X5_oneIf hdS_X5_oneIf ⟨by decide, by decide⟩ rfl hl.1 rfl (Nat.le_of_ble_eq_true rfl) dX4_countLyingOf_23 (fun z5 w5 H1 locs1 rz5 hp5 hW => ?_)
          obtain ⟨hp5, hq5⟩ := hp5
          subst hq5
          have rz5a := rz5.1
          have rz5b := rz5.2
          rcases hp5 with ⟨e5, hp5⟩ | ⟨e5, hp5⟩
          · subst e5
            refine r_iadd hx hb dX4_countLyingOf_26 ?_
            refine lv_istore_n (lv' := [(2, .int (iI (x2 + 1))), (4, .int (iI z1)), (3, .int (iI x3)), (0, .ref (ad G j 7)), (1, .int (iI co))]) hx hb dX4_countLyingOf_27 rfl hl (by decide) rfl (fun ls hl => ?_)
            refine r_iinc (lv' := [(3, .int (iI (x3 + 1))), (2, .int (iI (x2 + 1))), (4, .int (iI z1)), (0, .ref (ad G j 7)), (1, .int (iI co))]) hx hb dX4_countLyingOf_28 hl (k := 2) rfl (by decide) rfl (fun ls hl => ?_)
            refine lv_goto (tgt := 10) hx hb dX4_countLyingOf_31 (by decide) ?_
            exact ih10 (x2 + 1) (x3 + 1) _ _ ls (by omega) (by omega) (by omega) (by first | (rw [cntI_t (by omega) (by first | assumption | (unfold pOf lyi at *; omega))]; omega) | (rw [cntI_f (by omega) (by first | assumption | (unfold pOf lyi at *; omega))]; omega)) hW (lv_sub hl [2, 0, 1, 3, 4] rfl)
          · subst e5
            refine r_iadd hx hb dX4_countLyingOf_26 ?_
            refine lv_istore_n (lv' := [(2, .int (iI (x2 + 0))), (4, .int (iI z1)), (3, .int (iI x3)), (0, .ref (ad G j 7)), (1, .int (iI co))]) hx hb dX4_countLyingOf_27 rfl hl (by decide) rfl (fun ls hl => ?_)
            refine r_iinc (lv' := [(3, .int (iI (x3 + 1))), (2, .int (iI (x2 + 0))), (4, .int (iI z1)), (0, .ref (ad G j 7)), (1, .int (iI co))]) hx hb dX4_countLyingOf_28 hl (k := 2) rfl (by decide) rfl (fun ls hl => ?_)
            refine lv_goto (tgt := 10) hx hb dX4_countLyingOf_31 (by decide) ?_
            exact ih10 (x2 + 0) (x3 + 1) _ _ ls (by omega) (by omega) (by omega) (by first | (rw [cntI_t (by omega) (by first | assumption | (unfold pOf lyi at *; omega))]; omega) | (rw [cntI_f (by omega) (by first | assumption | (unfold pOf lyi at *; omega))]; omega)) hW (lv_sub hl [2, 0, 1, 3, 4] rfl)
  exact hL10 121 0 0 _ _ ls (by omega) (by omega) (by omega) (by rw [cntI_0]) hW (lv_sub hl [0, 1, 2, 3, 4] rfl)

/-- X4_countStackedOf: its end -/
def po_X4_countStackedOf (w : gW) (j : Nat) (co : Int) : Int → gW → Prop := fun z w1 => (z = cntI (pSO (w j) co) (gN (w j) 7 6)) ∧ w = w1
theorem hdV_X4_countStackedOf : yX4_countStackedOf.cls = RX4 ∧ yX4_countStackedOf.cls ≠ "java/lang/invoke/MethodHandle" ∧ yX4_countStackedOf.cls ≠ "java/lang/invoke/VarHandle" ∧ (parseMethodDescriptor yX4_countStackedOf.desc).map (fun d => d.parameters.length) = some 1 := by decide +kernel
set_option maxHeartbeats 4000000 in
set_option maxRecDepth 100000 in
theorem c_X4_countStackedOf (l : Launch) (G : gG) (w : gW) {j : Nat} (hj : ms j) (hwf : wf (w j)) (co : Int) (rco : inR co) : mI l G yX4_countStackedOf (wU yX4_countStackedOf cX4_countStackedOf 5 (some .int)) (rmL 4 76) [.ref (ad G j 7), .int (iI co)] w (po_X4_countStackedOf w j co) := by
  refine mI_of (by decide +kernel) (Nat.le_of_ble_eq_true rfl) (fun p e s m args below meth c ls C0 hW hl => ?_)
  have hl : lv_has ls 5 [(0, .ref (ad G j 7)), (1, .int (iI co))] := hl
  have hx := C0.hx
  have hb := C0.hb
  obtain ⟨⟨hs1, hs2⟩, -⟩ := id hwf
  refine r_iconst hx hb dX4_countStackedOf_0 ?_
  refine lv_istore_n (lv' := [(2, .int (iI 0)), (0, .ref (ad G j 7)), (1, .int (iI co))]) hx hb dX4_countStackedOf_1 rfl hl (by decide) rfl (fun ls hl => ?_)
  refine r_iconst hx hb dX4_countStackedOf_2 ?_
  refine lv_istore_n (lv' := [(3, .int (iI 0)), (2, .int (iI 0)), (0, .ref (ad G j 7)), (1, .int (iI co))]) hx hb dX4_countStackedOf_3 rfl hl (by decide) rfl (fun ls hl => ?_)
  refine lv_aload_n hx hb dX4_countStackedOf_4 rfl (lv_at hl 2 rfl) ?_
  refine k_Vi (j := j) (k0 := 7) C0 hW (c_X4_end l G w hj hwf) km_X4_53 ki_X4_end ke_X4_end kn_X4 kc_X4_end rfl hdV_X4_end ⟨by decide, by decide⟩ (ms_lt hj 7 (by decide)) (ceX_m hj G 7 _ _) rfl rfl hl.1 rfl (Nat.le_of_ble_eq_true rfl) dX4_countStackedOf_5 (fun z1 w1 H1 locs1 rz1 hp1 hW => ?_)
  obtain ⟨hp1, hq1⟩ := hp1
  subst hq1
  have rz1a := rz1.1
  have rz1b := rz1.2
  refine lv_istore (lv' := [(4, .int (iI z1)), (3, .int (iI 0)), (2, .int (iI 0)), (0, .ref (ad G j 7)), (1, .int (iI co))]) hx hb dX4_countStackedOf_8 hl (by decide) rfl (fun ls hl => ?_)
  have hL10 : ∀ (n : Nat) (x2 : Int) (x3 : Int) (H0 : Heap) (locs0 : List Loc) (ls : Array Slot) (hm : gN (w j) 7 6 - x3 < (n : Int)) (i10_0 : 0 ≤ x3) (i10_1 : x3 ≤ gN (w j) 7 6) (i10_2 : x2 = cntI (pSO (w j) co) x3) (hW : wo G w s H0 locs0) (hl : lv_has ls 5 [(4, .int (iI z1)), (3, .int (iI x3)), (2, .int (iI x2)), (0, .ref (ad G j 7)), (1, .int (iI co))]), W p l e (rmL 4 76) s m args below meth c H0 locs0 0 0 (QI G (po_X4_countStackedOf w j co) below args s) (F0 m 10 ls []) := by
    intro n
    induction n with
    | zero =>
      intro x2 x3 H0 locs0 ls hm i10_0 i10_1 i10_2 hW hl
      exact absurd hm (by omega)
    | succ n ih10 =>
      intro x2 x3 H0 locs0 ls hm i10_0 i10_1 i10_2 hW hl
      have hcl := cntI_le (pSO (w j) co) i10_0
      refine lv_iload_n hx hb dX4_countStackedOf_10 rfl (lv_at hl 1 rfl) ?_
      refine lv_iload hx hb dX4_countStackedOf_11 (lv_at hl 0 rfl) ?_
      refine r_icmp_ge (tgt := 51) hx hb ⟨by omega, by omega⟩ rz1 dX4_countStackedOf_13 (by decide) (fun c2 => ?_) (fun c2 => ?_)
      · refine lv_iload_n hx hb dX4_countStackedOf_51 rfl (lv_at hl 2 rfl) ?_
        exact r_iret C0 hW ⟨by omega, by omega⟩ (⟨by rw [show gN (w j) 7 6 = x3 from by omega]; omega, rfl⟩) dX4_countStackedOf_52
      · refine lv_iload_n hx hb dX4_countStackedOf_16 rfl (lv_at hl 2 rfl) ?_
        refine lv_aload_n hx hb dX4_countStackedOf_17 rfl (lv_at hl 3 rfl) ?_
        refine lv_iload_n hx hb dX4_countStackedOf_18 rfl (lv_at hl 1 rfl) ?_
        refine k_Vi (j := j) (k0 := 7) C0 hW (c_X4_isStacked l G w hj hwf x3 ⟨by omega, by omega⟩) km_X4_72 ki_X4_isStacked ke_X4_isStacked kn_X4 kc_X4_isStacked rfl hdV_X4_isStacked ⟨by decide, by decide⟩ (ms_lt hj 7 (by decide)) (ceX_m hj G 7 _ _) rfl rfl hl.1 rfl (Nat.le_of_ble_eq_true rfl) dX4_countStackedOf_19 (fun z3 w3 H1 locs1 rz3 hp3 hW => ?_)
        obtain ⟨hp3, hq3⟩ := hp3
        subst hq3
        have rz3a := rz3.1
        have rz3b := rz3.2
        rcases hp3 with ⟨e3, hp3⟩ | ⟨e3, hp3⟩
        · subst e3
          refine r_if_eq (tgt := 39) hx hb ⟨by omega, by omega⟩ dX4_countStackedOf_22 (by decide) (fun q => absurd q (by decide)) (fun _ => ?_)
          refine lv_aload_n hx hb dX4_countStackedOf_25 rfl (lv_at hl 3 rfl) ?_
          refine r_gR C0 hW (ms_lt hj 7 (by decide)) (ceX_m hj G 7 _ _) rfl hiX4 (k := 0) (by decide) kf_X4_9 rfl rfl rfl dX4_countStackedOf_26 ?_
          refine lv_iload_n hx hb dX4_countStackedOf_29 rfl (lv_at hl 1 rfl) ?_
          refine r_ild C0 hW (ms_lt hj 8 (by decide)) (ceX_m hj G 8 _ _) (n := 120) (by omega) (by omega) (by omega) dX4_countStackedOf_30 (fun z4 (hz4 : z4 = gA (w j) 8 x3) rz4 => ?_)
          have rz4a := rz4.1
          have rz4b := rz4.2
          refine lv_iload_n hx hb dX4_countStackedOf_31 rfl (lv_at hl 4 rfl) ?_
          refine r_icmp_ne (tgt := 39) hx hb rz4 rco dX4_countStackedOf_32 (by decide) (fun c5 => ?_) (fun c5 => ?_)
          · refine r_iconst hx hb dX4_countStackedOf_39 ?_
            refine k_Ni (own := "") C0 hW (As := [.int (iI 0)]) (c_X5_oneIf l G w 0 ⟨by omega, by omega⟩) C0.nst.2.2.2.2.1 ks_X5_oneIf kn_X5 kc_X5_oneIf hdS_X5_oneIf ⟨by decide, by decide⟩ rfl hl.1 rfl (Nat.le_of_ble_eq_true rfl) dX4_countStackedOf_40 (fun z6 w6 H1 locs1 rz6 hp6 hW => ?_)
            obtain ⟨hp6, hq6⟩ := hp6
            subst hq6
            have rz6a := rz6.1
            have rz6b := rz6.2
            rcases hp6 with ⟨e6, hp6⟩ | ⟨e6, hp6⟩
            · subst e6
              refine r_iadd hx hb dX4_countStackedOf_43 ?_
              refine lv_istore_n (lv' := [(2, .int (iI (x2 + 1))), (4, .int (iI z1)), (3, .int (iI x3)), (0, .ref (ad G j 7)), (1, .int (iI co))]) hx hb dX4_countStackedOf_44 rfl hl (by decide) rfl (fun ls hl => ?_)
              refine r_iinc (lv' := [(3, .int (iI (x3 + 1))), (2, .int (iI (x2 + 1))), (4, .int (iI z1)), (0, .ref (ad G j 7)), (1, .int (iI co))]) hx hb dX4_countStackedOf_45 hl (k := 2) rfl (by decide) rfl (fun ls hl => ?_)
              refine lv_goto (tgt := 10) hx hb dX4_countStackedOf_48 (by decide) ?_
              exact ih10 (x2 + 1) (x3 + 1) _ _ ls (by omega) (by omega) (by omega) (by first | (rw [cntI_t (by omega) (by first | assumption | (unfold pSO pSt lyi at *; omega))]; omega) | (rw [cntI_f (by omega) (by first | assumption | (unfold pSO pSt lyi at *; omega))]; omega)) hW (lv_sub hl [2, 0, 1, 3, 4] rfl)
            · subst e6
              refine r_iadd hx hb dX4_countStackedOf_43 ?_
              refine lv_istore_n (lv' := [(2, .int (iI (x2 + 0))), (4, .int (iI z1)), (3, .int (iI x3)), (0, .ref (ad G j 7)), (1, .int (iI co))]) hx hb dX4_countStackedOf_44 rfl hl (by decide) rfl (fun ls hl => ?_)
              refine r_iinc (lv' := [(3, .int (iI (x3 + 1))), (2, .int (iI (x2 + 0))), (4, .int (iI z1)), (0, .ref (ad G j 7)), (1, .int (iI co))]) hx hb dX4_countStackedOf_45 hl (k := 2) rfl (by decide) rfl (fun ls hl => ?_)
              refine lv_goto (tgt := 10) hx hb dX4_countStackedOf_48 (by decide) ?_
              exact ih10 (x2 + 0) (x3 + 1) _ _ ls (by omega) (by omega) (by omega) (by first | (rw [cntI_t (by omega) (by first | assumption | (unfold pSO pSt lyi at *; omega))]; omega) | (rw [cntI_f (by omega) (by first | assumption | (unfold pSO pSt lyi at *; omega))]; omega)) hW (lv_sub hl [2, 0, 1, 3, 4] rfl)
          · refine r_iconst hx hb dX4_countStackedOf_35 ?_
            refine lv_goto (tgt := 40) hx hb dX4_countStackedOf_36 (by decide) ?_
            refine k_Ni (own := "") C0 hW (As := [.int (iI 1)]) (c_X5_oneIf l G w 1 ⟨by omega, by omega⟩) C0.nst.2.2.2.2.1 ks_X5_oneIf kn_X5 kc_X5_oneIf hdS_X5_oneIf ⟨by decide, by decide⟩ rfl hl.1 rfl (Nat.le_of_ble_eq_true rfl) dX4_countStackedOf_40 (fun z7 w7 H1 locs1 rz7 hp7 hW => ?_)
            obtain ⟨hp7, hq7⟩ := hp7
            subst hq7
            have rz7a := rz7.1
            have rz7b := rz7.2
            rcases hp7 with ⟨e7, hp7⟩ | ⟨e7, hp7⟩
            · subst e7
              refine r_iadd hx hb dX4_countStackedOf_43 ?_
              refine lv_istore_n (lv' := [(2, .int (iI (x2 + 1))), (4, .int (iI z1)), (3, .int (iI x3)), (0, .ref (ad G j 7)), (1, .int (iI co))]) hx hb dX4_countStackedOf_44 rfl hl (by decide) rfl (fun ls hl => ?_)
              refine r_iinc (lv' := [(3, .int (iI (x3 + 1))), (2, .int (iI (x2 + 1))), (4, .int (iI z1)), (0, .ref (ad G j 7)), (1, .int (iI co))]) hx hb dX4_countStackedOf_45 hl (k := 2) rfl (by decide) rfl (fun ls hl => ?_)
              refine lv_goto (tgt := 10) hx hb dX4_countStackedOf_48 (by decide) ?_
              exact ih10 (x2 + 1) (x3 + 1) _ _ ls (by omega) (by omega) (by omega) (by first | (rw [cntI_t (by omega) (by first | assumption | (unfold pSO pSt lyi at *; omega))]; omega) | (rw [cntI_f (by omega) (by first | assumption | (unfold pSO pSt lyi at *; omega))]; omega)) hW (lv_sub hl [2, 0, 1, 3, 4] rfl)
            · subst e7
              refine r_iadd hx hb dX4_countStackedOf_43 ?_
              refine lv_istore_n (lv' := [(2, .int (iI (x2 + 0))), (4, .int (iI z1)), (3, .int (iI x3)), (0, .ref (ad G j 7)), (1, .int (iI co))]) hx hb dX4_countStackedOf_44 rfl hl (by decide) rfl (fun ls hl => ?_)
              refine r_iinc (lv' := [(3, .int (iI (x3 + 1))), (2, .int (iI (x2 + 0))), (4, .int (iI z1)), (0, .ref (ad G j 7)), (1, .int (iI co))]) hx hb dX4_countStackedOf_45 hl (k := 2) rfl (by decide) rfl (fun ls hl => ?_)
              refine lv_goto (tgt := 10) hx hb dX4_countStackedOf_48 (by decide) ?_
              exact ih10 (x2 + 0) (x3 + 1) _ _ ls (by omega) (by omega) (by omega) (by first | (rw [cntI_t (by omega) (by first | assumption | (unfold pSO pSt lyi at *; omega))]; omega) | (rw [cntI_f (by omega) (by first | assumption | (unfold pSO pSt lyi at *; omega))]; omega)) hW (lv_sub hl [2, 0, 1, 3, 4] rfl)
        · subst e3
          refine r_if_eq (tgt := 39) hx hb ⟨by omega, by omega⟩ dX4_countStackedOf_22 (by decide) (fun _ => ?_) (fun q => absurd q (by decide))
          refine r_iconst hx hb dX4_countStackedOf_39 ?_
          refine k_Ni (own := "") C0 hW (As := [.int (iI 0)]) (c_X5_oneIf l G w 0 ⟨by omega, by omega⟩) C0.nst.2.2.2.2.1 ks_X5_oneIf kn_X5 kc_X5_oneIf hdS_X5_oneIf ⟨by decide, by decide⟩ rfl hl.1 rfl (Nat.le_of_ble_eq_true rfl) dX4_countStackedOf_40 (fun z8 w8 H1 locs1 rz8 hp8 hW => ?_)
          obtain ⟨hp8, hq8⟩ := hp8
          subst hq8
          have rz8a := rz8.1
          have rz8b := rz8.2
          rcases hp8 with ⟨e8, hp8⟩ | ⟨e8, hp8⟩
          · subst e8
            refine r_iadd hx hb dX4_countStackedOf_43 ?_
            refine lv_istore_n (lv' := [(2, .int (iI (x2 + 1))), (4, .int (iI z1)), (3, .int (iI x3)), (0, .ref (ad G j 7)), (1, .int (iI co))]) hx hb dX4_countStackedOf_44 rfl hl (by decide) rfl (fun ls hl => ?_)
            refine r_iinc (lv' := [(3, .int (iI (x3 + 1))), (2, .int (iI (x2 + 1))), (4, .int (iI z1)), (0, .ref (ad G j 7)), (1, .int (iI co))]) hx hb dX4_countStackedOf_45 hl (k := 2) rfl (by decide) rfl (fun ls hl => ?_)
            refine lv_goto (tgt := 10) hx hb dX4_countStackedOf_48 (by decide) ?_
            exact ih10 (x2 + 1) (x3 + 1) _ _ ls (by omega) (by omega) (by omega) (by first | (rw [cntI_t (by omega) (by first | assumption | (unfold pSO pSt lyi at *; omega))]; omega) | (rw [cntI_f (by omega) (by first | assumption | (unfold pSO pSt lyi at *; omega))]; omega)) hW (lv_sub hl [2, 0, 1, 3, 4] rfl)
          · subst e8
            refine r_iadd hx hb dX4_countStackedOf_43 ?_
            refine lv_istore_n (lv' := [(2, .int (iI (x2 + 0))), (4, .int (iI z1)), (3, .int (iI x3)), (0, .ref (ad G j 7)), (1, .int (iI co))]) hx hb dX4_countStackedOf_44 rfl hl (by decide) rfl (fun ls hl => ?_)
            refine r_iinc (lv' := [(3, .int (iI (x3 + 1))), (2, .int (iI (x2 + 0))), (4, .int (iI z1)), (0, .ref (ad G j 7)), (1, .int (iI co))]) hx hb dX4_countStackedOf_45 hl (k := 2) rfl (by decide) rfl (fun ls hl => ?_)
            refine lv_goto (tgt := 10) hx hb dX4_countStackedOf_48 (by decide) ?_
            exact ih10 (x2 + 0) (x3 + 1) _ _ ls (by omega) (by omega) (by omega) (by first | (rw [cntI_t (by omega) (by first | assumption | (unfold pSO pSt lyi at *; omega))]; omega) | (rw [cntI_f (by omega) (by first | assumption | (unfold pSO pSt lyi at *; omega))]; omega)) hW (lv_sub hl [2, 0, 1, 3, 4] rfl)
  exact hL10 121 0 0 _ _ ls (by omega) (by omega) (by omega) (by rw [cntI_0]) hW (lv_sub hl [0, 1, 2, 3, 4] rfl)

