/-- X5_countEqual: its end -/
def po_X5_countEqual (w : gW) (j : Nat) (k0 : Nat) (nA : Nat) (v : Int) : Int → gW → Prop := fun z w1 => (z = cntI (pEq (w j) k0 v) nA) ∧ w = w1
theorem hdS_X5_countEqual : yX5_countEqual.cls ≠ "java/lang/invoke/MethodHandle" ∧ yX5_countEqual.cls ≠ "java/lang/invoke/VarHandle" ∧ (parseMethodDescriptor yX5_countEqual.desc).map (fun d => d.parameters.length) = some 2 := by decide +kernel
set_option maxHeartbeats 4000000 in
set_option maxRecDepth 100000 in
theorem c_X5_countEqual (l : Launch) (G : gG) (w : gW) {j : Nat} {k0 : Nat} (nA : Nat) (hj : j < 11 ∧ k0 < bs j) (hn : nA ≤ 120) (he : ∀ A : Int → Int32, ceX G j k0 A ((w j).2 k0) = cI G nA A) (v : Int) (rv : inR v) : mI l G yX5_countEqual (wU yX5_countEqual cX5_countEqual 7 (some .int)) (rmL 1 20) [.ref (ad G j k0), .int (iI v)] w (po_X5_countEqual w j k0 nA v) := by
  refine mI_of (by decide +kernel) (Nat.le_of_ble_eq_true rfl) (fun p e s m args below meth c ls C0 hW hl => ?_)
  have hl : lv_has ls 7 [(0, .ref (ad G j k0)), (1, .int (iI v))] := hl
  have hx := C0.hx
  have hb := C0.hb
  have rnn : inR (nA : Int) := ⟨by omega, by omega⟩
  refine r_iconst hx hb dX5_countEqual_0 ?_
  refine lv_istore_n (lv' := [(2, .int (iI 0)), (0, .ref (ad G j k0)), (1, .int (iI v))]) hx hb dX5_countEqual_1 rfl hl (by decide) rfl (fun ls hl => ?_)
  refine lv_aload_n hx hb dX5_countEqual_2 rfl (lv_at hl 1 rfl) ?_
  refine lv_astore_n (lv' := [(3, .ref (ad G j k0)), (2, .int (iI 0)), (0, .ref (ad G j k0)), (1, .int (iI v))]) hx hb dX5_countEqual_3 rfl hl (by decide) rfl (fun ls hl => ?_)
  refine lv_aload_n hx hb dX5_countEqual_4 rfl (lv_at hl 0 rfl) ?_
  refine r_alen C0 hW hj (n := nA) (by omega) (Or.inl (he _)) dX5_countEqual_5 ?_
  refine lv_istore (lv' := [(4, .int (iI (nA : Int))), (3, .ref (ad G j k0)), (2, .int (iI 0)), (0, .ref (ad G j k0)), (1, .int (iI v))]) hx hb dX5_countEqual_6 hl (by decide) rfl (fun ls hl => ?_)
  refine r_iconst hx hb dX5_countEqual_8 ?_
  refine lv_istore (lv' := [(5, .int (iI 0)), (4, .int (iI (nA : Int))), (3, .ref (ad G j k0)), (2, .int (iI 0)), (0, .ref (ad G j k0)), (1, .int (iI v))]) hx hb dX5_countEqual_9 hl (by decide) rfl (fun ls hl => ?_)
  have hL11 : ∀ (n : Nat) (x2 : Int) (x5 : Int) (H0 : Heap) (locs0 : List Loc) (ls : Array Slot) (hm : (nA : Int) - x5 < (n : Int)) (i11_0 : 0 ≤ x5) (i11_1 : x5 ≤ (nA : Int)) (i11_2 : x2 = cntI (pEq (w j) k0 v) x5) (hW : wo G w s H0 locs0) (hl : lv_has ls 7 [(5, .int (iI x5)), (4, .int (iI (nA : Int))), (3, .ref (ad G j k0)), (2, .int (iI x2)), (0, .ref (ad G j k0)), (1, .int (iI v))]), W p l e (rmL 1 20) s m args below meth c H0 locs0 0 0 (QI G (po_X5_countEqual w j k0 nA v) below args s) (F0 m 11 ls []) := by
    intro n
    induction n with
    | zero =>
      intro x2 x5 H0 locs0 ls hm i11_0 i11_1 i11_2 hW hl
      exact absurd hm (by omega)
    | succ n ih11 =>
      intro x2 x5 H0 locs0 ls hm i11_0 i11_1 i11_2 hW hl
      have hcl := cntI_le (pEq (w j) k0 v) i11_0
      refine lv_iload hx hb dX5_countEqual_11 (lv_at hl 0 rfl) ?_
      refine lv_iload hx hb dX5_countEqual_13 (lv_at hl 1 rfl) ?_
      refine r_icmp_ge (tgt := 47) hx hb ⟨by omega, by omega⟩ rnn dX5_countEqual_15 (by decide) (fun c1 => ?_) (fun c1 => ?_)
      · refine lv_iload_n hx hb dX5_countEqual_47 rfl (lv_at hl 3 rfl) ?_
        exact r_iret C0 hW ⟨by omega, by omega⟩ (⟨by rw [show (nA : Int) = x5 from by omega]; omega, rfl⟩) dX5_countEqual_48
      · refine lv_aload_n hx hb dX5_countEqual_18 rfl (lv_at hl 2 rfl) ?_
        refine lv_iload hx hb dX5_countEqual_19 (lv_at hl 0 rfl) ?_
        refine r_ild C0 hW hj (he _) (n := nA) (by omega) (by omega) (by omega) dX5_countEqual_21 (fun z2 (hz2 : z2 = gA (w j) k0 x5) rz2 => ?_)
        have rz2a := rz2.1
        have rz2b := rz2.2
        refine lv_istore (lv' := [(6, .int (iI z2)), (5, .int (iI x5)), (4, .int (iI (nA : Int))), (3, .ref (ad G j k0)), (2, .int (iI x2)), (0, .ref (ad G j k0)), (1, .int (iI v))]) hx hb dX5_countEqual_22 hl (by decide) rfl (fun ls hl => ?_)
        refine lv_iload_n hx hb dX5_countEqual_24 rfl (lv_at hl 4 rfl) ?_
        refine lv_iload hx hb dX5_countEqual_25 (lv_at hl 0 rfl) ?_
        refine lv_iload_n hx hb dX5_countEqual_27 rfl (lv_at hl 6 rfl) ?_
        refine r_icmp_ne (tgt := 35) hx hb rz2 rv dX5_countEqual_28 (by decide) (fun c3 => ?_) (fun c3 => ?_)
        · refine r_iconst hx hb dX5_countEqual_35 ?_
          refine k_Si (host := "") C0 hW (As := [.int (iI 0)]) (c_X5_oneIf l G w 0 ⟨by omega, by omega⟩) km_X5_188 ks_X5_oneIf kn_X5 kc_X5_oneIf rfl hdS_X5_oneIf ⟨by decide, by decide⟩ rfl hl.1 rfl (Nat.le_of_ble_eq_true rfl) dX5_countEqual_36 (fun z4 w4 H1 locs1 rz4 hp4 hW => ?_)
          obtain ⟨hp4, hq4⟩ := hp4
          subst hq4
          have rz4a := rz4.1
          have rz4b := rz4.2
          rcases hp4 with ⟨e4, hp4⟩ | ⟨e4, hp4⟩
          · subst e4
            refine r_iadd hx hb dX5_countEqual_39 ?_
            refine lv_istore_n (lv' := [(2, .int (iI (x2 + 1))), (6, .int (iI z2)), (5, .int (iI x5)), (4, .int (iI (nA : Int))), (3, .ref (ad G j k0)), (0, .ref (ad G j k0)), (1, .int (iI v))]) hx hb dX5_countEqual_40 rfl hl (by decide) rfl (fun ls hl => ?_)
            refine r_iinc (lv' := [(5, .int (iI (x5 + 1))), (2, .int (iI (x2 + 1))), (6, .int (iI z2)), (4, .int (iI (nA : Int))), (3, .ref (ad G j k0)), (0, .ref (ad G j k0)), (1, .int (iI v))]) hx hb dX5_countEqual_41 hl (k := 2) rfl (by decide) rfl (fun ls hl => ?_)
            refine lv_goto (tgt := 11) hx hb dX5_countEqual_44 (by decide) ?_
            exact ih11 (x2 + 1) (x5 + 1) _ _ ls (by omega) (by omega) (by omega) (by first | (rw [cntI_t (by omega) (by first | assumption | (unfold pEq at *; omega))]; omega) | (rw [cntI_f (by omega) (by first | assumption | (unfold pEq at *; omega))]; omega)) hW (lv_sub hl [0, 3, 4, 1, 5, 6] rfl)
          · subst e4
            refine r_iadd hx hb dX5_countEqual_39 ?_
            refine lv_istore_n (lv' := [(2, .int (iI (x2 + 0))), (6, .int (iI z2)), (5, .int (iI x5)), (4, .int (iI (nA : Int))), (3, .ref (ad G j k0)), (0, .ref (ad G j k0)), (1, .int (iI v))]) hx hb dX5_countEqual_40 rfl hl (by decide) rfl (fun ls hl => ?_)
            refine r_iinc (lv' := [(5, .int (iI (x5 + 1))), (2, .int (iI (x2 + 0))), (6, .int (iI z2)), (4, .int (iI (nA : Int))), (3, .ref (ad G j k0)), (0, .ref (ad G j k0)), (1, .int (iI v))]) hx hb dX5_countEqual_41 hl (k := 2) rfl (by decide) rfl (fun ls hl => ?_)
            refine lv_goto (tgt := 11) hx hb dX5_countEqual_44 (by decide) ?_
            exact ih11 (x2 + 0) (x5 + 1) _ _ ls (by omega) (by omega) (by omega) (by first | (rw [cntI_t (by omega) (by first | assumption | (unfold pEq at *; omega))]; omega) | (rw [cntI_f (by omega) (by first | assumption | (unfold pEq at *; omega))]; omega)) hW (lv_sub hl [0, 3, 4, 1, 5, 6] rfl)
        · refine r_iconst hx hb dX5_countEqual_31 ?_
          refine lv_goto (tgt := 36) hx hb dX5_countEqual_32 (by decide) ?_
          refine k_Si (host := "") C0 hW (As := [.int (iI 1)]) (c_X5_oneIf l G w 1 ⟨by omega, by omega⟩) km_X5_188 ks_X5_oneIf kn_X5 kc_X5_oneIf rfl hdS_X5_oneIf ⟨by decide, by decide⟩ rfl hl.1 rfl (Nat.le_of_ble_eq_true rfl) dX5_countEqual_36 (fun z5 w5 H1 locs1 rz5 hp5 hW => ?_)
          obtain ⟨hp5, hq5⟩ := hp5
          subst hq5
          have rz5a := rz5.1
          have rz5b := rz5.2
          rcases hp5 with ⟨e5, hp5⟩ | ⟨e5, hp5⟩
          · subst e5
            refine r_iadd hx hb dX5_countEqual_39 ?_
            refine lv_istore_n (lv' := [(2, .int (iI (x2 + 1))), (6, .int (iI z2)), (5, .int (iI x5)), (4, .int (iI (nA : Int))), (3, .ref (ad G j k0)), (0, .ref (ad G j k0)), (1, .int (iI v))]) hx hb dX5_countEqual_40 rfl hl (by decide) rfl (fun ls hl => ?_)
            refine r_iinc (lv' := [(5, .int (iI (x5 + 1))), (2, .int (iI (x2 + 1))), (6, .int (iI z2)), (4, .int (iI (nA : Int))), (3, .ref (ad G j k0)), (0, .ref (ad G j k0)), (1, .int (iI v))]) hx hb dX5_countEqual_41 hl (k := 2) rfl (by decide) rfl (fun ls hl => ?_)
            refine lv_goto (tgt := 11) hx hb dX5_countEqual_44 (by decide) ?_
            exact ih11 (x2 + 1) (x5 + 1) _ _ ls (by omega) (by omega) (by omega) (by first | (rw [cntI_t (by omega) (by first | assumption | (unfold pEq at *; omega))]; omega) | (rw [cntI_f (by omega) (by first | assumption | (unfold pEq at *; omega))]; omega)) hW (lv_sub hl [0, 3, 4, 1, 5, 6] rfl)
          · subst e5
            refine r_iadd hx hb dX5_countEqual_39 ?_
            refine lv_istore_n (lv' := [(2, .int (iI (x2 + 0))), (6, .int (iI z2)), (5, .int (iI x5)), (4, .int (iI (nA : Int))), (3, .ref (ad G j k0)), (0, .ref (ad G j k0)), (1, .int (iI v))]) hx hb dX5_countEqual_40 rfl hl (by decide) rfl (fun ls hl => ?_)
            refine r_iinc (lv' := [(5, .int (iI (x5 + 1))), (2, .int (iI (x2 + 0))), (6, .int (iI z2)), (4, .int (iI (nA : Int))), (3, .ref (ad G j k0)), (0, .ref (ad G j k0)), (1, .int (iI v))]) hx hb dX5_countEqual_41 hl (k := 2) rfl (by decide) rfl (fun ls hl => ?_)
            refine lv_goto (tgt := 11) hx hb dX5_countEqual_44 (by decide) ?_
            exact ih11 (x2 + 0) (x5 + 1) _ _ ls (by omega) (by omega) (by omega) (by first | (rw [cntI_t (by omega) (by first | assumption | (unfold pEq at *; omega))]; omega) | (rw [cntI_f (by omega) (by first | assumption | (unfold pEq at *; omega))]; omega)) hW (lv_sub hl [0, 3, 4, 1, 5, 6] rfl)
  exact hL11 121 0 0 _ _ ls (by omega) (by omega) (by omega) (by rw [cntI_0]) hW (lv_sub hl [0, 1, 2, 3, 4, 5] rfl)

/-- X5_sumOf: its end -/
def po_X5_sumOf (w : gW) (j : Nat) (k0 : Nat) (nA : Nat) : Int → gW → Prop := fun z w1 => (iI z = iI (sumX (gA (w j) k0) nA)) ∧ w = w1
theorem hdS_X5_sumOf : yX5_sumOf.cls ≠ "java/lang/invoke/MethodHandle" ∧ yX5_sumOf.cls ≠ "java/lang/invoke/VarHandle" ∧ (parseMethodDescriptor yX5_sumOf.desc).map (fun d => d.parameters.length) = some 1 := by decide +kernel
set_option maxHeartbeats 4000000 in
set_option maxRecDepth 100000 in
theorem c_X5_sumOf (l : Launch) (G : gG) (w : gW) {j : Nat} {k0 : Nat} (nA : Nat) (hj : j < 11 ∧ k0 < bs j) (hn : nA ≤ 120) (he : ∀ A : Int → Int32, ceX G j k0 A ((w j).2 k0) = cI G nA A) : mI l G yX5_sumOf (wU yX5_sumOf cX5_sumOf 6 (some .int)) (rmL 0 0) [.ref (ad G j k0)] w (po_X5_sumOf w j k0 nA) := by
  refine mI_of (by decide +kernel) (Nat.le_of_ble_eq_true rfl) (fun p e s m args below meth c ls C0 hW hl => ?_)
  have hl : lv_has ls 6 [(0, .ref (ad G j k0))] := hl
  have hx := C0.hx
  have hb := C0.hb
  have rnn : inR (nA : Int) := ⟨by omega, by omega⟩
  refine r_iconst hx hb dX5_sumOf_0 ?_
  refine lv_istore_n (lv' := [(1, .int (iI 0)), (0, .ref (ad G j k0))]) hx hb dX5_sumOf_1 rfl hl (by decide) rfl (fun ls hl => ?_)
  refine lv_aload_n hx hb dX5_sumOf_2 rfl (lv_at hl 1 rfl) ?_
  refine lv_astore_n (lv' := [(2, .ref (ad G j k0)), (1, .int (iI 0)), (0, .ref (ad G j k0))]) hx hb dX5_sumOf_3 rfl hl (by decide) rfl (fun ls hl => ?_)
  refine lv_aload_n hx hb dX5_sumOf_4 rfl (lv_at hl 0 rfl) ?_
  refine r_alen C0 hW hj (n := nA) (by omega) (Or.inl (he _)) dX5_sumOf_5 ?_
  refine lv_istore_n (lv' := [(3, .int (iI (nA : Int))), (2, .ref (ad G j k0)), (1, .int (iI 0)), (0, .ref (ad G j k0))]) hx hb dX5_sumOf_6 rfl hl (by decide) rfl (fun ls hl => ?_)
  refine r_iconst hx hb dX5_sumOf_7 ?_
  refine lv_istore (lv' := [(4, .int (iI 0)), (3, .int (iI (nA : Int))), (2, .ref (ad G j k0)), (1, .int (iI 0)), (0, .ref (ad G j k0))]) hx hb dX5_sumOf_8 hl (by decide) rfl (fun ls hl => ?_)
  have hL10 : ∀ (n : Nat) (x1 : Int) (x4 : Int) (H0 : Heap) (locs0 : List Loc) (ls : Array Slot) (hm : (nA : Int) - x4 < (n : Int)) (i10_0 : 0 ≤ x4) (i10_1 : x4 ≤ (nA : Int)) (i10_2 : iI x1 = iI (sumX (gA (w j) k0) x4)) (hW : wo G w s H0 locs0) (hl : lv_has ls 6 [(4, .int (iI x4)), (3, .int (iI (nA : Int))), (2, .ref (ad G j k0)), (1, .int (iI x1)), (0, .ref (ad G j k0))]), W p l e (rmL 0 0) s m args below meth c H0 locs0 0 0 (QI G (po_X5_sumOf w j k0 nA) below args s) (F0 m 10 ls []) := by
    intro n
    induction n with
    | zero =>
      intro x1 x4 H0 locs0 ls hm i10_0 i10_1 i10_2 hW hl
      exact absurd hm (by omega)
    | succ n ih10 =>
      intro x1 x4 H0 locs0 ls hm i10_0 i10_1 i10_2 hW hl
      refine lv_iload hx hb dX5_sumOf_10 (lv_at hl 0 rfl) ?_
      refine lv_iload_n hx hb dX5_sumOf_12 rfl (lv_at hl 1 rfl) ?_
      refine r_icmp_ge (tgt := 33) hx hb ⟨by omega, by omega⟩ rnn dX5_sumOf_13 (by decide) (fun c1 => ?_) (fun c1 => ?_)
      · refine lv_iload_n hx hb dX5_sumOf_33 rfl (lv_at hl 3 rfl) ?_
        rw [← iI_o (iI x1)]
        exact r_iret C0 hW (inR_o _) (⟨by rw [iI_o, show (nA : Int) = x4 from by omega, ← i10_2], rfl⟩) dX5_sumOf_34
      · refine lv_aload_n hx hb dX5_sumOf_16 rfl (lv_at hl 2 rfl) ?_
        refine lv_iload hx hb dX5_sumOf_17 (lv_at hl 0 rfl) ?_
        refine r_ild C0 hW hj (he _) (n := nA) (by omega) (by omega) (by omega) dX5_sumOf_19 (fun z2 (hz2 : z2 = gA (w j) k0 x4) rz2 => ?_)
        have rz2a := rz2.1
        have rz2b := rz2.2
        refine lv_istore (lv' := [(5, .int (iI z2)), (4, .int (iI x4)), (3, .int (iI (nA : Int))), (2, .ref (ad G j k0)), (1, .int (iI x1)), (0, .ref (ad G j k0))]) hx hb dX5_sumOf_20 hl (by decide) rfl (fun ls hl => ?_)
        refine lv_iload_n hx hb dX5_sumOf_22 rfl (lv_at hl 4 rfl) ?_
        refine lv_iload hx hb dX5_sumOf_23 (lv_at hl 0 rfl) ?_
        refine r_iadd hx hb dX5_sumOf_25 ?_
        refine lv_istore_n (lv' := [(1, .int (iI (x1 + z2))), (5, .int (iI z2)), (4, .int (iI x4)), (3, .int (iI (nA : Int))), (2, .ref (ad G j k0)), (0, .ref (ad G j k0))]) hx hb dX5_sumOf_26 rfl hl (by decide) rfl (fun ls hl => ?_)
        refine r_iinc (lv' := [(4, .int (iI (x4 + 1))), (1, .int (iI (x1 + z2))), (5, .int (iI z2)), (3, .int (iI (nA : Int))), (2, .ref (ad G j k0)), (0, .ref (ad G j k0))]) hx hb dX5_sumOf_27 hl (k := 2) rfl (by decide) rfl (fun ls hl => ?_)
        refine lv_goto (tgt := 10) hx hb dX5_sumOf_30 (by decide) ?_
        exact ih10 (x1 + z2) (x4 + 1) _ _ ls (by omega) (by omega) (by omega) (by rw [← iI_add, i10_2, iI_add, sumX_s _ (by omega)]; congr 2) hW (lv_sub hl [0, 3, 4, 1, 5] rfl)
  exact hL10 121 0 0 _ _ ls (by omega) (by omega) (by omega) (by rw [sumX_0]) hW (lv_sub hl [0, 1, 2, 3, 4] rfl)

/-- X3_commonerOfCart: its end -/
def po_X3_commonerOfCart (w : gW) (j : Nat) (v : Int) : Int → gW → Prop := fun z w1 => (z = (gN (w j) 0 10 + v * 5) % 10 ∧ 0 ≤ z ∧ z ≤ 9) ∧ w = w1
theorem hdV_X3_commonerOfCart : yX3_commonerOfCart.cls = RX3 ∧ yX3_commonerOfCart.cls ≠ "java/lang/invoke/MethodHandle" ∧ yX3_commonerOfCart.cls ≠ "java/lang/invoke/VarHandle" ∧ (parseMethodDescriptor yX3_commonerOfCart.desc).map (fun d => d.parameters.length) = some 1 := by decide +kernel
set_option maxHeartbeats 4000000 in
set_option maxRecDepth 100000 in
theorem c_X3_commonerOfCart (l : Launch) (G : gG) (w : gW) {j : Nat} (hj : ms j) (hwf : wf (w j)) (v : Int) (rv : inR v) (hv9 : 0 ≤ v ∧ v ≤ 1) : mI l G yX3_commonerOfCart (wU yX3_commonerOfCart cX3_commonerOfCart 2 (some .int)) (rmL 0 0) [.ref (ad G j 0), .int (iI v)] w (po_X3_commonerOfCart w j v) := by
  refine mI_of (by decide +kernel) (Nat.le_of_ble_eq_true rfl) (fun p e s m args below meth c ls C0 hW hl => ?_)
  have hl : lv_has ls 2 [(0, .ref (ad G j 0)), (1, .int (iI v))] := hl
  have hx := C0.hx
  have hb := C0.hb
  obtain ⟨⟨hs1, hs2⟩, ⟨hd1, hd2, hd3⟩, -, -, -, -, ⟨hr1, hr2⟩, ⟨hc1, hc2⟩, hds⟩ := id hwf
  refine lv_aload_n hx hb dX3_commonerOfCart_0 rfl (lv_at hl 0 rfl) ?_
  refine r_gI C0 hW (ms_lt hj 0 (by decide)) (ceX_m hj G 0 _ _) rfl hiX3 (k := 10) (by decide) kf_X3_62 rfl rfl rfl dX3_commonerOfCart_1 (fun z1 (hz1 : z1 = gN (w j) 0 10) rz1 => ?_)
  have rz1a := rz1.1
  have rz1b := rz1.2
  refine lv_iload_n hx hb dX3_commonerOfCart_4 rfl (lv_at hl 1 rfl) ?_
  refine r_iconst hx hb dX3_commonerOfCart_5 ?_
  refine r_imul hx hb dX3_commonerOfCart_6 ?_
  refine r_iadd hx hb dX3_commonerOfCart_7 ?_
  refine r_bipush hx hb dX3_commonerOfCart_8 (by decide) ?_
  refine r_irem hx hb ⟨by omega, by omega⟩ ⟨by omega, by omega⟩ (by omega) (by omega) dX3_commonerOfCart_10 ?_
  exact r_iret C0 hW ⟨by omega, by omega⟩ (⟨⟨by omega, by omega, by omega⟩, rfl⟩) dX3_commonerOfCart_11

/-- X3_hasDayLeft: its end -/
def po_X3_hasDayLeft (w : gW) (j : Nat) (co : Int) : Int → gW → Prop := fun z w1 => ((z = 1 ∧ pD (w j) co) ∨ (z = 0 ∧ ¬ pD (w j) co)) ∧ w = w1
theorem hdV_X3_hasDayLeft : yX3_hasDayLeft.cls = RX3 ∧ yX3_hasDayLeft.cls ≠ "java/lang/invoke/MethodHandle" ∧ yX3_hasDayLeft.cls ≠ "java/lang/invoke/VarHandle" ∧ (parseMethodDescriptor yX3_hasDayLeft.desc).map (fun d => d.parameters.length) = some 1 := by decide +kernel
set_option maxHeartbeats 4000000 in
set_option maxRecDepth 100000 in
theorem c_X3_hasDayLeft (l : Launch) (G : gG) (w : gW) {j : Nat} (hj : ms j) (hwf : wf (w j)) (co : Int) (rco : inR co) : mI l G yX3_hasDayLeft (wU yX3_hasDayLeft cX3_hasDayLeft 2 (some .boolean)) (rmL 2 42) [.ref (ad G j 0), .int (iI co)] w (po_X3_hasDayLeft w j co) := by
  refine mI_of (by decide +kernel) (Nat.le_of_ble_eq_true rfl) (fun p e s m args below meth c ls C0 hW hl => ?_)
  have hl : lv_has ls 2 [(0, .ref (ad G j 0)), (1, .int (iI co))] := hl
  have hx := C0.hx
  have hb := C0.hb
  obtain ⟨⟨hs1, hs2⟩, ⟨hd1, hd2, hd3⟩, -, -, -, -, ⟨hr1, hr2⟩, ⟨hc1, hc2⟩, hds⟩ := id hwf
  refine lv_iload_n hx hb dX3_hasDayLeft_0 rfl (lv_at hl 1 rfl) ?_
  refine k_Ni (own := "") C0 hW (As := [.int (iI co)]) (c_X5_isCommoner l G w co rco) C0.nst.2.2.2.2.2.2.2.1 ks_X5_isCommoner kn_X5 kc_X5_isCommoner hdS_X5_isCommoner ⟨by decide, by decide⟩ rfl hl.1 rfl (Nat.le_of_ble_eq_true rfl) dX3_hasDayLeft_1 (fun z1 w1 H1 locs1 rz1 hp1 hW => ?_)
  obtain ⟨hp1, hq1⟩ := hp1
  subst hq1
  have rz1a := rz1.1
  have rz1b := rz1.2
  rcases hp1 with ⟨e1, hp1⟩ | ⟨e1, hp1⟩
  · subst e1
    refine r_if_eq (tgt := 26) hx hb ⟨by omega, by omega⟩ dX3_hasDayLeft_4 (by decide) (fun q => absurd q (by decide)) (fun _ => ?_)
    refine lv_aload_n hx hb dX3_hasDayLeft_7 rfl (lv_at hl 0 rfl) ?_
    refine r_gR C0 hW (ms_lt hj 0 (by decide)) (ceX_m hj G 0 _ _) rfl hiX3 (k := 4) (by decide) kf_X3_24 rfl rfl rfl dX3_hasDayLeft_8 ?_
    refine lv_iload_n hx hb dX3_hasDayLeft_11 rfl (lv_at hl 1 rfl) ?_
    refine r_ild C0 hW (ms_lt hj 5 (by decide)) (ceX_m hj G 5 _ _) (n := 10) (by omega) (by omega) (by omega) dX3_hasDayLeft_12 (fun z2 (hz2 : z2 = gA (w j) 5 co) rz2 => ?_)
    have rz2a := rz2.1
    have rz2b := rz2.2
    refine lv_aload_n hx hb dX3_hasDayLeft_13 rfl (lv_at hl 0 rfl) ?_
    refine r_gR C0 hW (ms_lt hj 0 (by decide)) (ceX_m hj G 0 _ _) rfl hiX3 (k := 3) (by decide) kf_X3_21 rfl rfl rfl dX3_hasDayLeft_14 ?_
    refine lv_iload_n hx hb dX3_hasDayLeft_17 rfl (lv_at hl 1 rfl) ?_
    refine r_ild C0 hW (ms_lt hj 4 (by decide)) (ceX_m hj G 4 _ _) (n := 10) (by omega) (by omega) (by omega) dX3_hasDayLeft_18 (fun z3 (hz3 : z3 = gA (w j) 4 co) rz3 => ?_)
    have rz3a := rz3.1
    have rz3b := rz3.2
    refine r_icmp_ge (tgt := 26) hx hb rz2 rz3 dX3_hasDayLeft_19 (by decide) (fun c4 => ?_) (fun c4 => ?_)
    · refine r_iconst hx hb dX3_hasDayLeft_26 ?_
      exact r_zret C0 hW (by first | exact Or.inl rfl | exact Or.inr rfl | omega) (⟨by unfold pD; omega, rfl⟩) dX3_hasDayLeft_27
    · refine r_iconst hx hb dX3_hasDayLeft_22 ?_
      refine lv_goto (tgt := 27) hx hb dX3_hasDayLeft_23 (by decide) ?_
      exact r_zret C0 hW (by first | exact Or.inl rfl | exact Or.inr rfl | omega) (⟨by unfold pD; omega, rfl⟩) dX3_hasDayLeft_27
  · subst e1
    refine r_if_eq (tgt := 26) hx hb ⟨by omega, by omega⟩ dX3_hasDayLeft_4 (by decide) (fun _ => ?_) (fun q => absurd q (by decide))
    refine r_iconst hx hb dX3_hasDayLeft_26 ?_
    exact r_zret C0 hW (by first | exact Or.inl rfl | exact Or.inr rfl | omega) (⟨by unfold pD; omega, rfl⟩) dX3_hasDayLeft_27

/-- X3_hasRight: its end -/
def po_X3_hasRight (w : gW) (j : Nat) (co : Int) (pl : Int) : Int → gW → Prop := fun z w1 => ((z = 1 ∧ pR (w j) co pl) ∨ (z = 0 ∧ ¬ pR (w j) co pl)) ∧ w = w1
theorem hdV_X3_hasRight : yX3_hasRight.cls = RX3 ∧ yX3_hasRight.cls ≠ "java/lang/invoke/MethodHandle" ∧ yX3_hasRight.cls ≠ "java/lang/invoke/VarHandle" ∧ (parseMethodDescriptor yX3_hasRight.desc).map (fun d => d.parameters.length) = some 2 := by decide +kernel
set_option maxHeartbeats 4000000 in
set_option maxRecDepth 100000 in
theorem c_X3_hasRight (l : Launch) (G : gG) (w : gW) {j : Nat} (hj : ms j) (hwf : wf (w j)) (co : Int) (pl : Int) (rco : inR co) (rpl : inR pl) : mI l G yX3_hasRight (wU yX3_hasRight cX3_hasRight 3 (some .boolean)) (rmL 2 42) [.ref (ad G j 0), .int (iI co), .int (iI pl)] w (po_X3_hasRight w j co pl) := by
  refine mI_of (by decide +kernel) (Nat.le_of_ble_eq_true rfl) (fun p e s m args below meth c ls C0 hW hl => ?_)
  have hl : lv_has ls 3 [(0, .ref (ad G j 0)), (1, .int (iI co)), (2, .int (iI pl))] := hl
  have hx := C0.hx
  have hb := C0.hb
  obtain ⟨⟨hs1, hs2⟩, ⟨hd1, hd2, hd3⟩, -, -, -, -, ⟨hr1, hr2⟩, ⟨hc1, hc2⟩, hds⟩ := id hwf
  refine lv_iload_n hx hb dX3_hasRight_0 rfl (lv_at hl 2 rfl) ?_
  refine k_Ni (own := "") C0 hW (As := [.int (iI pl)]) (c_X5_isPlot l G w pl rpl) C0.nst.2.2.2.2.2.2.2.2.1 ks_X5_isPlot kn_X5 kc_X5_isPlot hdS_X5_isPlot ⟨by decide, by decide⟩ rfl hl.1 rfl (Nat.le_of_ble_eq_true rfl) dX3_hasRight_1 (fun z1 w1 H1 locs1 rz1 hp1 hW => ?_)
  obtain ⟨hp1, hq1⟩ := hp1
  subst hq1
  have rz1a := rz1.1
  have rz1b := rz1.2
  rcases hp1 with ⟨e1, hp1⟩ | ⟨e1, hp1⟩
  · subst e1
    refine r_if_eq (tgt := 21) hx hb ⟨by omega, by omega⟩ dX3_hasRight_4 (by decide) (fun q => absurd q (by decide)) (fun _ => ?_)
    refine lv_aload_n hx hb dX3_hasRight_7 rfl (lv_at hl 0 rfl) ?_
    refine r_gR C0 hW (ms_lt hj 0 (by decide)) (ceX_m hj G 0 _ _) rfl hiX3 (k := 2) (by decide) kf_X3_18 rfl rfl rfl dX3_hasRight_8 ?_
    refine lv_iload_n hx hb dX3_hasRight_11 rfl (lv_at hl 2 rfl) ?_
    refine r_ild C0 hW (ms_lt hj 3 (by decide)) (ceX_m hj G 3 _ _) (n := 20) (by omega) (by omega) (by omega) dX3_hasRight_12 (fun z2 (hz2 : z2 = gA (w j) 3 pl) rz2 => ?_)
    have rz2a := rz2.1
    have rz2b := rz2.2
    refine lv_iload_n hx hb dX3_hasRight_13 rfl (lv_at hl 1 rfl) ?_
    refine r_icmp_ne (tgt := 21) hx hb rz2 rco dX3_hasRight_14 (by decide) (fun c3 => ?_) (fun c3 => ?_)
    · refine r_iconst hx hb dX3_hasRight_21 ?_
      exact r_zret C0 hW (by first | exact Or.inl rfl | exact Or.inr rfl | omega) (⟨by unfold pR; omega, rfl⟩) dX3_hasRight_22
    · refine r_iconst hx hb dX3_hasRight_17 ?_
      refine lv_goto (tgt := 22) hx hb dX3_hasRight_18 (by decide) ?_
      exact r_zret C0 hW (by first | exact Or.inl rfl | exact Or.inr rfl | omega) (⟨by unfold pR; omega, rfl⟩) dX3_hasRight_22
  · subst e1
    refine r_if_eq (tgt := 21) hx hb ⟨by omega, by omega⟩ dX3_hasRight_4 (by decide) (fun _ => ?_) (fun q => absurd q (by decide))
    refine r_iconst hx hb dX3_hasRight_21 ?_
    exact r_zret C0 hW (by first | exact Or.inl rfl | exact Or.inr rfl | omega) (⟨by unfold pR; omega, rfl⟩) dX3_hasRight_22

/-- X3_reasonAgainst: its end -/
def po_X3_reasonAgainst (w : gW) (j : Nat) (co : Int) (pl : Int) : Int → gW → Prop := fun z w1 => (rsn (w j) co pl z) ∧ w = w1
theorem hdV_X3_reasonAgainst : yX3_reasonAgainst.cls = RX3 ∧ yX3_reasonAgainst.cls ≠ "java/lang/invoke/MethodHandle" ∧ yX3_reasonAgainst.cls ≠ "java/lang/invoke/VarHandle" ∧ (parseMethodDescriptor yX3_reasonAgainst.desc).map (fun d => d.parameters.length) = some 2 := by decide +kernel
set_option maxHeartbeats 4000000 in
set_option maxRecDepth 100000 in
theorem c_X3_reasonAgainst (l : Launch) (G : gG) (w : gW) {j : Nat} (hj : ms j) (hwf : wf (w j)) (co : Int) (pl : Int) (rco : inR co) (rpl : inR pl) : mI l G yX3_reasonAgainst (wU yX3_reasonAgainst cX3_reasonAgainst 4 (some .int)) (rmL 3 64) [.ref (ad G j 0), .int (iI co), .int (iI pl)] w (po_X3_reasonAgainst w j co pl) := by
  refine mI_of (by decide +kernel) (Nat.le_of_ble_eq_true rfl) (fun p e s m args below meth c ls C0 hW hl => ?_)
  have hl : lv_has ls 4 [(0, .ref (ad G j 0)), (1, .int (iI co)), (2, .int (iI pl))] := hl
  have hx := C0.hx
  have hb := C0.hb
  obtain ⟨⟨hs1, hs2⟩, ⟨hd1, hd2, hd3⟩, -, -, -, -, ⟨hr1, hr2⟩, ⟨hc1, hc2⟩, hds⟩ := id hwf
  refine lv_aload_n hx hb dX3_reasonAgainst_0 rfl (lv_at hl 0 rfl) ?_
  refine lv_iload_n hx hb dX3_reasonAgainst_1 rfl (lv_at hl 1 rfl) ?_
  refine k_Vi (j := j) (k0 := 0) C0 hW (c_X3_hasDayLeft l G w hj hwf co rco) km_X3_74 ki_X3_hasDayLeft ke_X3_hasDayLeft kn_X3 kc_X3_hasDayLeft rfl hdV_X3_hasDayLeft ⟨by decide, by decide⟩ (ms_lt hj 0 (by decide)) (ceX_m hj G 0 _ _) rfl rfl hl.1 rfl (Nat.le_of_ble_eq_true rfl) dX3_reasonAgainst_2 (fun z1 w1 H1 locs1 rz1 hp1 hW => ?_)
  obtain ⟨hp1, hq1⟩ := hp1
  subst hq1
  have rz1a := rz1.1
  have rz1b := rz1.2
  rcases hp1 with ⟨e1, hp1⟩ | ⟨e1, hp1⟩
  · subst e1
    obtain ⟨⟨hp11, hp12⟩, hp13⟩ := id hp1
    refine r_if_ne (tgt := 10) hx hb ⟨by omega, by omega⟩ dX3_reasonAgainst_5 (by decide) (fun _ => ?_) (fun q => absurd q (by decide))
    refine lv_iload_n hx hb dX3_reasonAgainst_10 rfl (lv_at hl 2 rfl) ?_
    refine k_Ni (own := "") C0 hW (As := [.int (iI pl)]) (c_X5_isPlot l G w pl rpl) C0.nst.2.2.2.2.2.2.2.2.1 ks_X5_isPlot kn_X5 kc_X5_isPlot hdS_X5_isPlot ⟨by decide, by decide⟩ rfl hl.1 rfl (Nat.le_of_ble_eq_true rfl) dX3_reasonAgainst_11 (fun z2 w2 H1 locs1 rz2 hp2 hW => ?_)
    obtain ⟨hp2, hq2⟩ := hp2
    subst hq2
    have rz2a := rz2.1
    have rz2b := rz2.2
    rcases hp2 with ⟨e2, hp2⟩ | ⟨e2, hp2⟩
    · subst e2
      refine r_if_eq (tgt := 26) hx hb ⟨by omega, by omega⟩ dX3_reasonAgainst_14 (by decide) (fun q => absurd q (by decide)) (fun _ => ?_)
      refine lv_aload_n hx hb dX3_reasonAgainst_17 rfl (lv_at hl 0 rfl) ?_
      refine r_gR C0 hW (ms_lt hj 0 (by decide)) (ceX_m hj G 0 _ _) rfl hiX3 (k := 0) (by decide) kf_X3_9 rfl rfl rfl dX3_reasonAgainst_18 ?_
      refine lv_iload_n hx hb dX3_reasonAgainst_21 rfl (lv_at hl 2 rfl) ?_
      refine r_ild C0 hW (ms_lt hj 1 (by decide)) (ceX_m hj G 1 _ _) (n := 20) (by omega) (by omega) (by omega) dX3_reasonAgainst_22 (fun z3 (hz3 : z3 = gA (w j) 1 pl) rz3 => ?_)
      have rz3a := rz3.1
      have rz3b := rz3.2
      refine r_if_gt (tgt := 28) hx hb rz3 dX3_reasonAgainst_23 (by decide) (fun c4 => ?_) (fun c4 => ?_)
      · refine lv_aload_n hx hb dX3_reasonAgainst_28 rfl (lv_at hl 0 rfl) ?_
        refine r_gR C0 hW (ms_lt hj 0 (by decide)) (ceX_m hj G 0 _ _) rfl hiX3 (k := 6) (by decide) kf_X3_33 rfl rfl rfl dX3_reasonAgainst_29 ?_
        refine k_Vi (j := j) (k0 := 7) C0 hW (c_X4_countLying l G w hj hwf) km_X3_81 ki_X4_countLying ke_X4_countLying kn_X4 kc_X4_countLying rfl hdV_X4_countLying ⟨by decide, by decide⟩ (ms_lt hj 7 (by decide)) (ceX_m hj G 7 _ _) rfl rfl hl.1 rfl (Nat.le_of_ble_eq_true rfl) dX3_reasonAgainst_32 (fun z5 w5 H1 locs1 rz5 hp5 hW => ?_)
        obtain ⟨hp5, hq5⟩ := hp5
        subst hq5
        have rz5a := rz5.1
        have rz5b := rz5.2
        refine r_bipush hx hb dX3_reasonAgainst_35 (by decide) ?_
        refine r_icmp_lt (tgt := 42) hx hb rz5 ⟨by omega, by omega⟩ dX3_reasonAgainst_37 (by decide) (fun c6 => ?_) (fun c6 => ?_)
        · refine lv_aload_n hx hb dX3_reasonAgainst_42 rfl (lv_at hl 0 rfl) ?_
          refine lv_iload_n hx hb dX3_reasonAgainst_43 rfl (lv_at hl 1 rfl) ?_
          refine lv_iload_n hx hb dX3_reasonAgainst_44 rfl (lv_at hl 2 rfl) ?_
          refine k_Vi (j := j) (k0 := 0) C0 hW (c_X3_hasRight l G w hj hwf co pl rco rpl) km_X3_85 ki_X3_hasRight ke_X3_hasRight kn_X3 kc_X3_hasRight rfl hdV_X3_hasRight ⟨by decide, by decide⟩ (ms_lt hj 0 (by decide)) (ceX_m hj G 0 _ _) rfl rfl hl.1 rfl (Nat.le_of_ble_eq_true rfl) dX3_reasonAgainst_45 (fun z7 w7 H1 locs1 rz7 hp7 hW => ?_)
          obtain ⟨hp7, hq7⟩ := hp7
          subst hq7
          have rz7a := rz7.1
          have rz7b := rz7.2
          rcases hp7 with ⟨e7, hp7⟩ | ⟨e7, hp7⟩
          · subst e7
            refine r_if_ne (tgt := 73) hx hb ⟨by omega, by omega⟩ dX3_reasonAgainst_48 (by decide) (fun _ => ?_) (fun q => absurd q (by decide))
            refine r_iconst hx hb dX3_reasonAgainst_73 ?_
            refine lv_goto (tgt := 78) hx hb dX3_reasonAgainst_74 (by decide) ?_
            refine lv_istore_n (lv' := [(3, .int (iI 1)), (0, .ref (ad G j 0)), (1, .int (iI co)), (2, .int (iI pl))]) hx hb dX3_reasonAgainst_78 rfl hl (by decide) rfl (fun ls hl => ?_)
            refine lv_iload_n hx hb dX3_reasonAgainst_79 rfl (lv_at hl 0 rfl) ?_
            refine r_if_eq (tgt := 87) hx hb ⟨by omega, by omega⟩ dX3_reasonAgainst_80 (by decide) (fun q => absurd q (by decide)) (fun _ => ?_)
            refine r_iconst hx hb dX3_reasonAgainst_83 ?_
            refine lv_goto (tgt := 88) hx hb dX3_reasonAgainst_84 (by decide) ?_
            exact r_iret C0 hW ⟨by omega, by omega⟩ (⟨by unfold rsn; first | exact Or.inl ⟨rfl, by assumption⟩ | exact Or.inr (Or.inl ⟨rfl, by assumption, by omega⟩) | (refine Or.inr (Or.inr ⟨by assumption, by omega, by omega, ?_⟩); first | exact Or.inl ⟨rfl, by omega⟩ | (refine Or.inr ⟨by omega, ?_⟩; first | exact Or.inl ⟨rfl, Or.inl (by assumption)⟩ | exact Or.inl ⟨rfl, Or.inr (Or.inl (by assumption))⟩ | exact Or.inl ⟨rfl, Or.inr (Or.inr (by assumption))⟩ | exact Or.inr ⟨rfl, by assumption, by assumption, by assumption⟩)), rfl⟩) dX3_reasonAgainst_88
          · subst e7
            refine r_if_ne (tgt := 73) hx hb ⟨by omega, by omega⟩ dX3_reasonAgainst_48 (by decide) (fun q => absurd q (by decide)) (fun _ => ?_)
            refine lv_aload_n hx hb dX3_reasonAgainst_51 rfl (lv_at hl 0 rfl) ?_
            refine lv_iload_n hx hb dX3_reasonAgainst_52 rfl (lv_at hl 1 rfl) ?_
            refine lv_iload_n hx hb dX3_reasonAgainst_53 rfl (lv_at hl 2 rfl) ?_
            refine r_iconst hx hb dX3_reasonAgainst_54 ?_
            refine r_isub hx hb dX3_reasonAgainst_55 ?_
            refine k_Vi (j := j) (k0 := 0) C0 hW (c_X3_hasRight l G w hj hwf co (pl - 1) rco ⟨by omega, by omega⟩) km_X3_85 ki_X3_hasRight ke_X3_hasRight kn_X3 kc_X3_hasRight rfl hdV_X3_hasRight ⟨by decide, by decide⟩ (ms_lt hj 0 (by decide)) (ceX_m hj G 0 _ _) rfl rfl hl.1 rfl (Nat.le_of_ble_eq_true rfl) dX3_reasonAgainst_56 (fun z8 w8 H1 locs1 rz8 hp8 hW => ?_)
            obtain ⟨hp8, hq8⟩ := hp8
            subst hq8
            have rz8a := rz8.1
            have rz8b := rz8.2
            rcases hp8 with ⟨e8, hp8⟩ | ⟨e8, hp8⟩
            · subst e8
              refine r_if_ne (tgt := 73) hx hb ⟨by omega, by omega⟩ dX3_reasonAgainst_59 (by decide) (fun _ => ?_) (fun q => absurd q (by decide))
              refine r_iconst hx hb dX3_reasonAgainst_73 ?_
              refine lv_goto (tgt := 78) hx hb dX3_reasonAgainst_74 (by decide) ?_
              refine lv_istore_n (lv' := [(3, .int (iI 1)), (0, .ref (ad G j 0)), (1, .int (iI co)), (2, .int (iI pl))]) hx hb dX3_reasonAgainst_78 rfl hl (by decide) rfl (fun ls hl => ?_)
              refine lv_iload_n hx hb dX3_reasonAgainst_79 rfl (lv_at hl 0 rfl) ?_
              refine r_if_eq (tgt := 87) hx hb ⟨by omega, by omega⟩ dX3_reasonAgainst_80 (by decide) (fun q => absurd q (by decide)) (fun _ => ?_)
              refine r_iconst hx hb dX3_reasonAgainst_83 ?_
              refine lv_goto (tgt := 88) hx hb dX3_reasonAgainst_84 (by decide) ?_
              exact r_iret C0 hW ⟨by omega, by omega⟩ (⟨by unfold rsn; first | exact Or.inl ⟨rfl, by assumption⟩ | exact Or.inr (Or.inl ⟨rfl, by assumption, by omega⟩) | (refine Or.inr (Or.inr ⟨by assumption, by omega, by omega, ?_⟩); first | exact Or.inl ⟨rfl, by omega⟩ | (refine Or.inr ⟨by omega, ?_⟩; first | exact Or.inl ⟨rfl, Or.inl (by assumption)⟩ | exact Or.inl ⟨rfl, Or.inr (Or.inl (by assumption))⟩ | exact Or.inl ⟨rfl, Or.inr (Or.inr (by assumption))⟩ | exact Or.inr ⟨rfl, by assumption, by assumption, by assumption⟩)), rfl⟩) dX3_reasonAgainst_88
            · subst e8
              refine r_if_ne (tgt := 73) hx hb ⟨by omega, by omega⟩ dX3_reasonAgainst_59 (by decide) (fun q => absurd q (by decide)) (fun _ => ?_)
              refine lv_aload_n hx hb dX3_reasonAgainst_62 rfl (lv_at hl 0 rfl) ?_
              refine lv_iload_n hx hb dX3_reasonAgainst_63 rfl (lv_at hl 1 rfl) ?_
              refine lv_iload_n hx hb dX3_reasonAgainst_64 rfl (lv_at hl 2 rfl) ?_
              refine r_iconst hx hb dX3_reasonAgainst_65 ?_
              refine r_iadd hx hb dX3_reasonAgainst_66 ?_
              refine k_Vi (j := j) (k0 := 0) C0 hW (c_X3_hasRight l G w hj hwf co (pl + 1) rco ⟨by omega, by omega⟩) km_X3_85 ki_X3_hasRight ke_X3_hasRight kn_X3 kc_X3_hasRight rfl hdV_X3_hasRight ⟨by decide, by decide⟩ (ms_lt hj 0 (by decide)) (ceX_m hj G 0 _ _) rfl rfl hl.1 rfl (Nat.le_of_ble_eq_true rfl) dX3_reasonAgainst_67 (fun z9 w9 H1 locs1 rz9 hp9 hW => ?_)
              obtain ⟨hp9, hq9⟩ := hp9
              subst hq9
              have rz9a := rz9.1
              have rz9b := rz9.2
              rcases hp9 with ⟨e9, hp9⟩ | ⟨e9, hp9⟩
              · subst e9
                refine r_if_eq (tgt := 77) hx hb ⟨by omega, by omega⟩ dX3_reasonAgainst_70 (by decide) (fun q => absurd q (by decide)) (fun _ => ?_)
                refine r_iconst hx hb dX3_reasonAgainst_73 ?_
                refine lv_goto (tgt := 78) hx hb dX3_reasonAgainst_74 (by decide) ?_
                refine lv_istore_n (lv' := [(3, .int (iI 1)), (0, .ref (ad G j 0)), (1, .int (iI co)), (2, .int (iI pl))]) hx hb dX3_reasonAgainst_78 rfl hl (by decide) rfl (fun ls hl => ?_)
                refine lv_iload_n hx hb dX3_reasonAgainst_79 rfl (lv_at hl 0 rfl) ?_
                refine r_if_eq (tgt := 87) hx hb ⟨by omega, by omega⟩ dX3_reasonAgainst_80 (by decide) (fun q => absurd q (by decide)) (fun _ => ?_)
                refine r_iconst hx hb dX3_reasonAgainst_83 ?_
                refine lv_goto (tgt := 88) hx hb dX3_reasonAgainst_84 (by decide) ?_
                exact r_iret C0 hW ⟨by omega, by omega⟩ (⟨by unfold rsn; first | exact Or.inl ⟨rfl, by assumption⟩ | exact Or.inr (Or.inl ⟨rfl, by assumption, by omega⟩) | (refine Or.inr (Or.inr ⟨by assumption, by omega, by omega, ?_⟩); first | exact Or.inl ⟨rfl, by omega⟩ | (refine Or.inr ⟨by omega, ?_⟩; first | exact Or.inl ⟨rfl, Or.inl (by assumption)⟩ | exact Or.inl ⟨rfl, Or.inr (Or.inl (by assumption))⟩ | exact Or.inl ⟨rfl, Or.inr (Or.inr (by assumption))⟩ | exact Or.inr ⟨rfl, by assumption, by assumption, by assumption⟩)), rfl⟩) dX3_reasonAgainst_88
              · subst e9
                refine r_if_eq (tgt := 77) hx hb ⟨by omega, by omega⟩ dX3_reasonAgainst_70 (by decide) (fun _ => ?_) (fun q => absurd q (by decide))
                refine r_iconst hx hb dX3_reasonAgainst_77 ?_
                refine lv_istore_n (lv' := [(3, .int (iI 0)), (0, .ref (ad G j 0)), (1, .int (iI co)), (2, .int (iI pl))]) hx hb dX3_reasonAgainst_78 rfl hl (by decide) rfl (fun ls hl => ?_)
                refine lv_iload_n hx hb dX3_reasonAgainst_79 rfl (lv_at hl 0 rfl) ?_
                refine r_if_eq (tgt := 87) hx hb ⟨by omega, by omega⟩ dX3_reasonAgainst_80 (by decide) (fun _ => ?_) (fun q => absurd q (by decide))
                refine r_iconst hx hb dX3_reasonAgainst_87 ?_
                exact r_iret C0 hW ⟨by omega, by omega⟩ (⟨by unfold rsn; first | exact Or.inl ⟨rfl, by assumption⟩ | exact Or.inr (Or.inl ⟨rfl, by assumption, by omega⟩) | (refine Or.inr (Or.inr ⟨by assumption, by omega, by omega, ?_⟩); first | exact Or.inl ⟨rfl, by omega⟩ | (refine Or.inr ⟨by omega, ?_⟩; first | exact Or.inl ⟨rfl, Or.inl (by assumption)⟩ | exact Or.inl ⟨rfl, Or.inr (Or.inl (by assumption))⟩ | exact Or.inl ⟨rfl, Or.inr (Or.inr (by assumption))⟩ | exact Or.inr ⟨rfl, by assumption, by assumption, by assumption⟩)), rfl⟩) dX3_reasonAgainst_88
        · refine r_iconst hx hb dX3_reasonAgainst_40 ?_
          exact r_iret C0 hW ⟨by omega, by omega⟩ (⟨by unfold rsn; first | exact Or.inl ⟨rfl, by assumption⟩ | exact Or.inr (Or.inl ⟨rfl, by assumption, by omega⟩) | (refine Or.inr (Or.inr ⟨by assumption, by omega, by omega, ?_⟩); first | exact Or.inl ⟨rfl, by omega⟩ | (refine Or.inr ⟨by omega, ?_⟩; first | exact Or.inl ⟨rfl, Or.inl (by assumption)⟩ | exact Or.inl ⟨rfl, Or.inr (Or.inl (by assumption))⟩ | exact Or.inl ⟨rfl, Or.inr (Or.inr (by assumption))⟩ | exact Or.inr ⟨rfl, by assumption, by assumption, by assumption⟩)), rfl⟩) dX3_reasonAgainst_41
      · refine r_iconst hx hb dX3_reasonAgainst_26 ?_
        exact r_iret C0 hW ⟨by omega, by omega⟩ (⟨by unfold rsn; first | exact Or.inl ⟨rfl, by assumption⟩ | exact Or.inr (Or.inl ⟨rfl, by assumption, by omega⟩) | (refine Or.inr (Or.inr ⟨by assumption, by omega, by omega, ?_⟩); first | exact Or.inl ⟨rfl, by omega⟩ | (refine Or.inr ⟨by omega, ?_⟩; first | exact Or.inl ⟨rfl, Or.inl (by assumption)⟩ | exact Or.inl ⟨rfl, Or.inr (Or.inl (by assumption))⟩ | exact Or.inl ⟨rfl, Or.inr (Or.inr (by assumption))⟩ | exact Or.inr ⟨rfl, by assumption, by assumption, by assumption⟩)), rfl⟩) dX3_reasonAgainst_27
    · subst e2
      refine r_if_eq (tgt := 26) hx hb ⟨by omega, by omega⟩ dX3_reasonAgainst_14 (by decide) (fun _ => ?_) (fun q => absurd q (by decide))
      refine r_iconst hx hb dX3_reasonAgainst_26 ?_
      exact r_iret C0 hW ⟨by omega, by omega⟩ (⟨by unfold rsn; first | exact Or.inl ⟨rfl, by assumption⟩ | exact Or.inr (Or.inl ⟨rfl, by assumption, by omega⟩) | (refine Or.inr (Or.inr ⟨by assumption, by omega, by omega, ?_⟩); first | exact Or.inl ⟨rfl, by omega⟩ | (refine Or.inr ⟨by omega, ?_⟩; first | exact Or.inl ⟨rfl, Or.inl (by assumption)⟩ | exact Or.inl ⟨rfl, Or.inr (Or.inl (by assumption))⟩ | exact Or.inl ⟨rfl, Or.inr (Or.inr (by assumption))⟩ | exact Or.inr ⟨rfl, by assumption, by assumption, by assumption⟩)), rfl⟩) dX3_reasonAgainst_27
  · subst e1
    refine r_if_ne (tgt := 10) hx hb ⟨by omega, by omega⟩ dX3_reasonAgainst_5 (by decide) (fun q => absurd q (by decide)) (fun _ => ?_)
    refine r_iconst hx hb dX3_reasonAgainst_8 ?_
    exact r_iret C0 hW ⟨by omega, by omega⟩ (⟨by unfold rsn; first | exact Or.inl ⟨rfl, by assumption⟩ | exact Or.inr (Or.inl ⟨rfl, by assumption, by omega⟩) | (refine Or.inr (Or.inr ⟨by assumption, by omega, by omega, ?_⟩); first | exact Or.inl ⟨rfl, by omega⟩ | (refine Or.inr ⟨by omega, ?_⟩; first | exact Or.inl ⟨rfl, Or.inl (by assumption)⟩ | exact Or.inl ⟨rfl, Or.inr (Or.inl (by assumption))⟩ | exact Or.inl ⟨rfl, Or.inr (Or.inr (by assumption))⟩ | exact Or.inr ⟨rfl, by assumption, by assumption, by assumption⟩)), rfl⟩) dX3_reasonAgainst_9

/-- X3_takeLayer: its end -/
def po_X3_takeLayer (w : gW) (j : Nat) (co : Int) (pl : Int) : Int → gW → Prop := fun z w1 => z = gN (w j) 7 6 ∧ w1 = up w j (takM (w j) co pl)
theorem hdV_X3_takeLayer : yX3_takeLayer.cls = RX3 ∧ yX3_takeLayer.cls ≠ "java/lang/invoke/MethodHandle" ∧ yX3_takeLayer.cls ≠ "java/lang/invoke/VarHandle" ∧ (parseMethodDescriptor yX3_takeLayer.desc).map (fun d => d.parameters.length) = some 2 := by decide +kernel
set_option maxHeartbeats 4000000 in
set_option maxRecDepth 100000 in
theorem c_X3_takeLayer (l : Launch) (G : gG) (w : gW) {j : Nat} (hj : ms j) (hwf : wf (w j)) (co : Int) (pl : Int) (rco : inR co) (rpl : inR pl) (hco : 0 ≤ co ∧ co ≤ 9) (hpl : 0 ≤ pl ∧ pl ≤ 19) (hn9 : gN (w j) 7 6 < 120) : mI l G yX3_takeLayer (wU yX3_takeLayer cX3_takeLayer 4 (some .int)) (rmL 2 43) [.ref (ad G j 0), .int (iI co), .int (iI pl)] w (po_X3_takeLayer w j co pl) := by
  refine mI_of (by decide +kernel) (Nat.le_of_ble_eq_true rfl) (fun p e s m args below meth c ls C0 hW hl => ?_)
  have hl : lv_has ls 4 [(0, .ref (ad G j 0)), (1, .int (iI co)), (2, .int (iI pl))] := hl
  have hx := C0.hx
  have hb := C0.hb
  obtain ⟨⟨hs1, hs2⟩, ⟨hd1, hd2, hd3⟩, -, -, -, -, ⟨hr1, hr2⟩, ⟨hc1, hc2⟩, hds⟩ := id hwf
  refine lv_iload_n hx hb dX3_takeLayer_0 rfl (lv_at hl 1 rfl) ?_
  refine k_Ni (own := "") C0 hW (As := [.int (iI co)]) (c_X5_isCommoner l G w co rco) C0.nst.2.2.2.2.2.2.2.1 ks_X5_isCommoner kn_X5 kc_X5_isCommoner hdS_X5_isCommoner ⟨by decide, by decide⟩ rfl hl.1 rfl (Nat.le_of_ble_eq_true rfl) dX3_takeLayer_1 (fun z1 w1 H1 locs1 rz1 hp1 hW => ?_)
  obtain ⟨hp1, hq1⟩ := hp1
  subst hq1
  have rz1a := rz1.1
  have rz1b := rz1.2
  rcases hp1 with ⟨e1, hp1⟩ | ⟨e1, hp1⟩
  · subst e1
    refine r_if_eq (tgt := 14) hx hb ⟨by omega, by omega⟩ dX3_takeLayer_4 (by decide) (fun q => absurd q (by decide)) (fun _ => ?_)
    refine lv_iload_n hx hb dX3_takeLayer_7 rfl (lv_at hl 2 rfl) ?_
    refine k_Ni (own := "") C0 hW (As := [.int (iI pl)]) (c_X5_isPlot l G w pl rpl) C0.nst.2.2.2.2.2.2.2.2.1 ks_X5_isPlot kn_X5 kc_X5_isPlot hdS_X5_isPlot ⟨by decide, by decide⟩ rfl hl.1 rfl (Nat.le_of_ble_eq_true rfl) dX3_takeLayer_8 (fun z2 w2 H1 locs1 rz2 hp2 hW => ?_)
    obtain ⟨hp2, hq2⟩ := hp2
    subst hq2
    have rz2a := rz2.1
    have rz2b := rz2.2
    rcases hp2 with ⟨e2, hp2⟩ | ⟨e2, hp2⟩
    · subst e2
      refine r_if_ne (tgt := 16) hx hb ⟨by omega, by omega⟩ dX3_takeLayer_11 (by decide) (fun _ => ?_) (fun q => absurd q (by decide))
      refine lv_aload_n hx hb dX3_takeLayer_16 rfl (lv_at hl 0 rfl) ?_
      refine r_gR C0 hW (ms_lt hj 0 (by decide)) (ceX_m hj G 0 _ _) rfl hiX3 (k := 0) (by decide) kf_X3_9 rfl rfl rfl dX3_takeLayer_17 ?_
      refine lv_iload_n hx hb dX3_takeLayer_20 rfl (lv_at hl 2 rfl) ?_
      refine lv_dup2_11 hx hb dX3_takeLayer_21 rfl rfl ?_
      refine r_ild C0 hW (ms_lt hj 1 (by decide)) (ceX_m hj G 1 _ _) (n := 20) (by omega) (by omega) (by omega) dX3_takeLayer_22 (fun z3 (hz3 : z3 = gA (w j) 1 pl) rz3 => ?_)
      have rz3a := rz3.1
      have rz3b := rz3.2
      refine r_iconst hx hb dX3_takeLayer_23 ?_
      refine r_isub hx hb dX3_takeLayer_24 ?_
      refine r_ist C0 hW (ms_lt hj 1 (by decide)) (fun A => (ceX_m hj G 1 _ _)) (n := 20) (v := iI (z3 - 1)) (by omega) (by omega) (by decide) dX3_takeLayer_25 (fun H1 locs1 hW => ?_)
      obtain ⟨w4, hw4⟩ : ∃ wq9 : gW, wq9 = up w j (sA (w j) 1 pl (iI (z3 - 1))) := ⟨_, rfl⟩
      rw [← hw4] at hW
      refine lv_aload_n hx hb dX3_takeLayer_26 rfl (lv_at hl 0 rfl) ?_
      refine r_gR C0 hW (ms_lt hj 0 (by decide)) (ceX_m hj G 0 _ _) rfl hiX3 (k := 4) (by decide) kf_X3_24 rfl rfl rfl dX3_takeLayer_27 ?_
      refine lv_iload_n hx hb dX3_takeLayer_30 rfl (lv_at hl 1 rfl) ?_
      refine lv_dup2_11 hx hb dX3_takeLayer_31 rfl rfl ?_
      refine r_ild C0 hW (ms_lt hj 5 (by decide)) (ceX_m hj G 5 _ _) (n := 10) (by omega) (by omega) (by omega) dX3_takeLayer_32 (fun z5 (hz5 : z5 = gA (w4 j) 5 co) rz5 => ?_)
      have rz5a := rz5.1
      have rz5b := rz5.2
      try simp (decide := true) only [hw4, up_s, gA_sF, gN_sF, gA_sA, gN_sA, gA_sS, gN_sS, if_true, if_false, true_and, and_true, false_and, and_false, layM] at hz5
      refine r_iconst hx hb dX3_takeLayer_33 ?_
      refine r_iadd hx hb dX3_takeLayer_34 ?_
      refine r_ist C0 hW (ms_lt hj 5 (by decide)) (fun A => (ceX_m hj G 5 _ _)) (n := 10) (v := iI (z5 + 1)) (by omega) (by omega) (by decide) dX3_takeLayer_35 (fun H1 locs1 hW => ?_)
      obtain ⟨w6, hw6⟩ : ∃ wq9 : gW, wq9 = up w4 j (sA (w4 j) 5 co (iI (z5 + 1))) := ⟨_, rfl⟩
      rw [← hw6] at hW
      refine lv_aload_n hx hb dX3_takeLayer_36 rfl (lv_at hl 0 rfl) ?_
      refine r_gR C0 hW (ms_lt hj 0 (by decide)) (ceX_m hj G 0 _ _) rfl hiX3 (k := 6) (by decide) kf_X3_33 rfl rfl rfl dX3_takeLayer_37 ?_
      refine lv_iload_n hx hb dX3_takeLayer_40 rfl (lv_at hl 1 rfl) ?_
      refine lv_iload_n hx hb dX3_takeLayer_41 rfl (lv_at hl 2 rfl) ?_
      refine k_Vi (j := j) (k0 := 7) C0 hW (c_X4_lay l G w6 hj (by simp only [hw6, hw4, up_up, up_s]; exact wf_A hwf rfl rfl rfl rfl rfl rfl rfl rfl rfl) co pl rco rpl (by first | omega | (simp (decide := true) only [hw6, hw4, up_s, gA_sF, gN_sF, gA_sA, gN_sA, gA_sS, gN_sS, if_true, if_false, true_and, and_true, false_and, and_false, layM, layM]; omega))) km_X3_92 ki_X4_lay ke_X4_lay kn_X4 kc_X4_lay rfl hdV_X4_lay ⟨by decide, by decide⟩ (ms_lt hj 7 (by decide)) (ceX_m hj G 7 _ _) rfl rfl hl.1 rfl (Nat.le_of_ble_eq_true rfl) dX3_takeLayer_42 (fun z7 w7 H1 locs1 rz7 hp7 hW => ?_)
      obtain ⟨hp7, hw7⟩ := hp7
      have rz7a := rz7.1
      have rz7b := rz7.2
      have ez7 : z7 = gN (w j) 7 6 := by rw [hp7]; simp (decide := true) only [hw7, hw6, hw4, up_s, gA_sF, gN_sF, gA_sA, gN_sA, gA_sS, gN_sS, if_true, if_false, true_and, and_true, false_and, and_false, layM]
      refine lv_istore_n (lv' := [(3, .int (iI z7)), (0, .ref (ad G j 0)), (1, .int (iI co)), (2, .int (iI pl))]) hx hb dX3_takeLayer_45 rfl hl (by decide) rfl (fun ls hl => ?_)
      refine lv_aload_n hx hb dX3_takeLayer_46 rfl (lv_at hl 1 rfl) ?_
      refine r_gR C0 hW (ms_lt hj 0 (by decide)) (ceX_m hj G 0 _ _) rfl hiX3 (k := 2) (by decide) kf_X3_18 rfl rfl rfl dX3_takeLayer_47 ?_
      refine lv_iload_n hx hb dX3_takeLayer_50 rfl (lv_at hl 3 rfl) ?_
      refine r_ild C0 hW (ms_lt hj 3 (by decide)) (ceX_m hj G 3 _ _) (n := 20) (by omega) (by omega) (by omega) dX3_takeLayer_51 (fun z8 (hz8 : z8 = gA (w7 j) 3 pl) rz8 => ?_)
      have rz8a := rz8.1
      have rz8b := rz8.2
      try simp (decide := true) only [hw7, hw6, hw4, up_s, gA_sF, gN_sF, gA_sA, gN_sA, gA_sS, gN_sS, if_true, if_false, true_and, and_true, false_and, and_false, layM] at hz8
      refine lv_iload_n hx hb dX3_takeLayer_52 rfl (lv_at hl 2 rfl) ?_
      refine r_icmp_eq (tgt := 72) hx hb rz8 rco dX3_takeLayer_53 (by decide) (fun c9 => ?_) (fun c9 => ?_)
      · refine lv_iload_n hx hb dX3_takeLayer_72 rfl (lv_at hl 0 rfl) ?_
        exact r_iret C0 hW rz7 (⟨by first | omega | (simp (decide := true) only [hw7, hw6, hw4, up_s, gA_sF, gN_sF, gA_sA, gN_sA, gA_sS, gN_sS, if_true, if_false, true_and, and_true, false_and, and_false, layM] at *; omega), by first | omega | (unfold takM; rw [if_pos (by omega)]; simp only [hw7, hw6, hw4, up_up, up_s, takM0, hz3, hz5, ez7, hz8]) | (unfold takM; rw [if_neg (by omega)]; simp only [hw7, hw6, hw4, up_up, up_s, takM0, hz3, hz5, ez7, hz8])⟩) dX3_takeLayer_73
      · refine lv_aload_n hx hb dX3_takeLayer_56 rfl (lv_at hl 1 rfl) ?_
        refine r_gR C0 hW (ms_lt hj 0 (by decide)) (ceX_m hj G 0 _ _) rfl hiX3 (k := 7) (by decide) kf_X3_40 rfl rfl rfl dX3_takeLayer_57 ?_
        refine lv_iload_n hx hb dX3_takeLayer_60 rfl (lv_at hl 2 rfl) ?_
        refine lv_aload_n hx hb dX3_takeLayer_61 rfl (lv_at hl 1 rfl) ?_
        refine r_gR C0 hW (ms_lt hj 0 (by decide)) (ceX_m hj G 0 _ _) rfl hiX3 (k := 2) (by decide) kf_X3_18 rfl rfl rfl dX3_takeLayer_62 ?_
        refine lv_iload_n hx hb dX3_takeLayer_65 rfl (lv_at hl 3 rfl) ?_
        refine r_ild C0 hW (ms_lt hj 3 (by decide)) (ceX_m hj G 3 _ _) (n := 20) (by omega) (by omega) (by omega) dX3_takeLayer_66 (fun z10 (hz10 : z10 = gA (w7 j) 3 pl) rz10 => ?_)
        have rz10a := rz10.1
        have rz10b := rz10.2
        try simp (decide := true) only [hw7, hw6, hw4, up_s, gA_sF, gN_sF, gA_sA, gN_sA, gA_sS, gN_sS, if_true, if_false, true_and, and_true, false_and, and_false, layM] at hz10
        refine lv_iload_n hx hb dX3_takeLayer_67 rfl (lv_at hl 0 rfl) ?_
        refine lv_iload_n hx hb dX3_takeLayer_68 rfl (lv_at hl 3 rfl) ?_
        refine k_Vv (j := j) (k0 := 14) C0 hW (c_X1_open l G w7 hj (by simp only [hw7, hw6, hw4, up_up, up_s]; exact wf_lay _ _ (wf_A hwf rfl rfl rfl rfl rfl rfl rfl rfl rfl) hn9) co z10 z7 pl rco rz10 rz7 rpl (by first | omega | (simp (decide := true) only [hw7, hw6, hw4, up_s, gA_sF, gN_sF, gA_sA, gN_sA, gA_sS, gN_sS, if_true, if_false, true_and, and_true, false_and, and_false, layM, layM]; omega))) km_X3_96 ki_X1_open ke_X1_open kn_X1 kc_X1_open rfl hdV_X1_open ⟨by decide, by decide⟩ (ms_lt hj 14 (by decide)) (ceX_m hj G 14 _ _) rfl rfl hl.1 rfl (Nat.le_of_ble_eq_true rfl) dX3_takeLayer_69 (fun w11 H1 locs1 hp11 hW => ?_)
        have hw11 : w11 = _ := hp11
        refine lv_iload_n hx hb dX3_takeLayer_72 rfl (lv_at hl 0 rfl) ?_
        exact r_iret C0 hW rz7 (⟨by first | omega | (simp (decide := true) only [hw11, hw7, hw6, hw4, up_s, gA_sF, gN_sF, gA_sA, gN_sA, gA_sS, gN_sS, if_true, if_false, true_and, and_true, false_and, and_false, layM] at *; omega), by first | omega | (unfold takM; rw [if_pos (by omega)]; simp only [hw11, hw7, hw6, hw4, up_up, up_s, takM0, hz3, hz5, ez7, hz8, hz10]) | (unfold takM; rw [if_neg (by omega)]; simp only [hw11, hw7, hw6, hw4, up_up, up_s, takM0, hz3, hz5, ez7, hz8, hz10])⟩) dX3_takeLayer_73
    · subst e2
      refine r_if_ne (tgt := 16) hx hb ⟨by omega, by omega⟩ dX3_takeLayer_11 (by decide) (fun q => absurd q (by decide)) (fun _ => ?_)
      refine r_iconst hx hb dX3_takeLayer_14 ?_
      exact r_iret C0 hW ⟨by omega, by omega⟩ (⟨by first | omega | (simp (decide := true) only [id, up_s, gA_sF, gN_sF, gA_sA, gN_sA, gA_sS, gN_sS, if_true, if_false, true_and, and_true, false_and, and_false, layM] at *; omega), by first | omega | (unfold takM; rw [if_pos (by omega)]; simp only [id, up_up, up_s, takM0, id]) | (unfold takM; rw [if_neg (by omega)]; simp only [id, up_up, up_s, takM0, id])⟩) dX3_takeLayer_15
  · subst e1
    refine r_if_eq (tgt := 14) hx hb ⟨by omega, by omega⟩ dX3_takeLayer_4 (by decide) (fun _ => ?_) (fun q => absurd q (by decide))
    refine r_iconst hx hb dX3_takeLayer_14 ?_
    exact r_iret C0 hW ⟨by omega, by omega⟩ (⟨by first | omega | (simp (decide := true) only [id, up_s, gA_sF, gN_sF, gA_sA, gN_sA, gA_sS, gN_sS, if_true, if_false, true_and, and_true, false_and, and_false, layM] at *; omega), by first | omega | (unfold takM; rw [if_pos (by omega)]; simp only [id, up_up, up_s, takM0, id]) | (unfold takM; rw [if_neg (by omega)]; simp only [id, up_up, up_s, takM0, id])⟩) dX3_takeLayer_15
