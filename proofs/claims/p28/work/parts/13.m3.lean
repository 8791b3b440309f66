

/-- X4_driestStackedOf: its end -/
def po_X4_driestStackedOf (w : gW) (j : Nat) (co : Int) : Int → gW → Prop := fun z w1 => (z = bstI (w j) co (gN (w j) 7 6)) ∧ w = w1
theorem hdV_X4_driestStackedOf : yX4_driestStackedOf.cls = RX4 ∧ yX4_driestStackedOf.cls ≠ "java/lang/invoke/MethodHandle" ∧ yX4_driestStackedOf.cls ≠ "java/lang/invoke/VarHandle" ∧ (parseMethodDescriptor yX4_driestStackedOf.desc).map (fun d => d.parameters.length) = some 1 := by decide +kernel
set_option maxHeartbeats 4000000 in
set_option maxRecDepth 100000 in
theorem c_X4_driestStackedOf (l : Launch) (G : gG) (w : gW) {j : Nat} (hj : ms j) (hwf : wf (w j)) (co : Int) (rco : inR co) : mI l G yX4_driestStackedOf (wU yX4_driestStackedOf cX4_driestStackedOf 5 (some .int)) (rmL 2 34) [.ref (ad G j 7), .int (iI co)] w (po_X4_driestStackedOf w j co) := by
  refine mI_of (by decide +kernel) (Nat.le_of_ble_eq_true rfl) (fun p e s m args below meth c ls C0 hW hl => ?_)
  have hl : lv_has ls 5 [(0, .ref (ad G j 7)), (1, .int (iI co))] := hl
  have hx := C0.hx
  have hb := C0.hb
  obtain ⟨⟨hs1, hs2⟩, -⟩ := id hwf
  refine r_bipush hx hb dX4_driestStackedOf_0 (by decide) ?_
  refine lv_istore_n (lv' := [(2, .int (iI (-5))), (0, .ref (ad G j 7)), (1, .int (iI co))]) hx hb dX4_driestStackedOf_2 rfl hl (by decide) rfl (fun ls hl => ?_)
  refine r_iconst hx hb dX4_driestStackedOf_3 ?_
  refine lv_istore_n (lv' := [(3, .int (iI 0)), (2, .int (iI (-5))), (0, .ref (ad G j 7)), (1, .int (iI co))]) hx hb dX4_driestStackedOf_4 rfl hl (by decide) rfl (fun ls hl => ?_)
  refine lv_aload_n hx hb dX4_driestStackedOf_5 rfl (lv_at hl 2 rfl) ?_
  refine k_Vi (j := j) (k0 := 7) C0 hW (c_X4_end l G w hj hwf) km_X4_53 ki_X4_end ke_X4_end kn_X4 kc_X4_end rfl hdV_X4_end ⟨by decide, by decide⟩ (ms_lt hj 7 (by decide)) (ceX_m hj G 7 _ _) rfl rfl hl.1 rfl (Nat.le_of_ble_eq_true rfl) dX4_driestStackedOf_6 (fun z1 w1 H1 locs1 rz1 hp1 hW => ?_)
  obtain ⟨hp1, hq1⟩ := hp1
  subst hq1
  have rz1a := rz1.1
  have rz1b := rz1.2
  refine lv_istore (lv' := [(4, .int (iI z1)), (3, .int (iI 0)), (2, .int (iI (-5))), (0, .ref (ad G j 7)), (1, .int (iI co))]) hx hb dX4_driestStackedOf_9 hl (by decide) rfl (fun ls hl => ?_)
  have hL11 : ∀ (n : Nat) (x2 : Int) (x3 : Int) (H0 : Heap) (locs0 : List Loc) (ls : Array Slot) (hm : gN (w j) 7 6 - x3 < (n : Int)) (i11_0 : 0 ≤ x3) (i11_1 : x3 ≤ gN (w j) 7 6) (i11_2 : x2 = bstI (w j) co x3) (hW : wo G w s H0 locs0) (hl : lv_has ls 5 [(4, .int (iI z1)), (3, .int (iI x3)), (2, .int (iI x2)), (0, .ref (ad G j 7)), (1, .int (iI co))]), W p l e (rmL 2 34) s m args below meth c H0 locs0 0 0 (QI G (po_X4_driestStackedOf w j co) below args s) (F0 m 11 ls []) := by
    intro n
    induction n with
    | zero =>
      intro x2 x3 H0 locs0 ls hm i11_0 i11_1 i11_2 hW hl
      exact absurd hm (by omega)
    | succ n ih11 =>
      intro x2 x3 H0 locs0 ls hm i11_0 i11_1 i11_2 hW hl
      have hbl := bstI_le (w j) co i11_0
      have hbl2 : x2 = -5 ∨ (0 ≤ x2 ∧ x2 < x3) := by rcases hbl with q | ⟨q1, q2, -⟩ <;> omega
      clear hbl
      refine lv_iload_n hx hb dX4_driestStackedOf_11 rfl (lv_at hl 1 rfl) ?_
      refine lv_iload hx hb dX4_driestStackedOf_12 (lv_at hl 0 rfl) ?_
      refine r_icmp_ge (tgt := 74) hx hb ⟨by omega, by omega⟩ rz1 dX4_driestStackedOf_14 (by decide) (fun c2 => ?_) (fun c2 => ?_)
      · refine lv_iload_n hx hb dX4_driestStackedOf_74 rfl (lv_at hl 2 rfl) ?_
        exact r_iret C0 hW ⟨by omega, by omega⟩ (⟨by rw [show gN (w j) 7 6 = x3 from by omega]; omega, rfl⟩) dX4_driestStackedOf_75
      · refine lv_aload_n hx hb dX4_driestStackedOf_17 rfl (lv_at hl 3 rfl) ?_
        refine r_gR C0 hW (ms_lt hj 7 (by decide)) (ceX_m hj G 7 _ _) rfl hiX4 (k := 5) (by decide) kf_X4_28 rfl rfl rfl dX4_driestStackedOf_18 ?_
        refine lv_iload_n hx hb dX4_driestStackedOf_21 rfl (lv_at hl 1 rfl) ?_
        refine r_zld C0 hW (ms_lt hj 13 (by decide)) (ceX_m hj G 13 _ _) (n := 120) (by omega) (by omega) (by omega) dX4_driestStackedOf_22 (fun z3 (hz3 : z3 = gA (w j) 13 x3) rz3 => ?_)
        have rz3a := rz3.1
        have rz3b := rz3.2
        refine r_if_eq (tgt := 68) hx hb rz3 dX4_driestStackedOf_23 (by decide) (fun c4 => ?_) (fun c4 => ?_)
        · refine r_iinc (lv' := [(3, .int (iI (x3 + 1))), (4, .int (iI z1)), (2, .int (iI x2)), (0, .ref (ad G j 7)), (1, .int (iI co))]) hx hb dX4_driestStackedOf_68 hl (k := 1) rfl (by decide) rfl (fun ls hl => ?_)
          refine lv_goto (tgt := 11) hx hb dX4_driestStackedOf_71 (by decide) ?_
          exact ih11 x2 (x3 + 1) _ _ ls (by omega) (by omega) (by omega) (by first | (rw [bstI_t (by omega) (by unfold pQ; omega) (by rw [← i11_2]; omega)]) | (rw [bstI_f (by omega) (by rw [← i11_2]; unfold pQ; omega)]; exact i11_2)) hW (lv_sub hl [1, 0, 2, 3, 4] rfl)
        · refine lv_aload_n hx hb dX4_driestStackedOf_26 rfl (lv_at hl 3 rfl) ?_
          refine r_gR C0 hW (ms_lt hj 7 (by decide)) (ceX_m hj G 7 _ _) rfl hiX4 (k := 4) (by decide) kf_X4_25 rfl rfl rfl dX4_driestStackedOf_27 ?_
          refine lv_iload_n hx hb dX4_driestStackedOf_30 rfl (lv_at hl 1 rfl) ?_
          refine r_zld C0 hW (ms_lt hj 12 (by decide)) (ceX_m hj G 12 _ _) (n := 120) (by omega) (by omega) (by omega) dX4_driestStackedOf_31 (fun z5 (hz5 : z5 = gA (w j) 12 x3) rz5 => ?_)
          have rz5a := rz5.1
          have rz5b := rz5.2
          refine r_if_eq (tgt := 68) hx hb rz5 dX4_driestStackedOf_32 (by decide) (fun c6 => ?_) (fun c6 => ?_)
          · refine r_iinc (lv' := [(3, .int (iI (x3 + 1))), (4, .int (iI z1)), (2, .int (iI x2)), (0, .ref (ad G j 7)), (1, .int (iI co))]) hx hb dX4_driestStackedOf_68 hl (k := 1) rfl (by decide) rfl (fun ls hl => ?_)
            refine lv_goto (tgt := 11) hx hb dX4_driestStackedOf_71 (by decide) ?_
            exact ih11 x2 (x3 + 1) _ _ ls (by omega) (by omega) (by omega) (by first | (rw [bstI_t (by omega) (by unfold pQ; omega) (by rw [← i11_2]; omega)]) | (rw [bstI_f (by omega) (by rw [← i11_2]; unfold pQ; omega)]; exact i11_2)) hW (lv_sub hl [1, 0, 2, 3, 4] rfl)
          · refine lv_aload_n hx hb dX4_driestStackedOf_35 rfl (lv_at hl 3 rfl) ?_
            refine r_gR C0 hW (ms_lt hj 7 (by decide)) (ceX_m hj G 7 _ _) rfl hiX4 (k := 0) (by decide) kf_X4_9 rfl rfl rfl dX4_driestStackedOf_36 ?_
            refine lv_iload_n hx hb dX4_driestStackedOf_39 rfl (lv_at hl 1 rfl) ?_
            refine r_ild C0 hW (ms_lt hj 8 (by decide)) (ceX_m hj G 8 _ _) (n := 120) (by omega) (by omega) (by omega) dX4_driestStackedOf_40 (fun z7 (hz7 : z7 = gA (w j) 8 x3) rz7 => ?_)
            have rz7a := rz7.1
            have rz7b := rz7.2
            refine lv_iload_n hx hb dX4_driestStackedOf_41 rfl (lv_at hl 4 rfl) ?_
            refine r_icmp_ne (tgt := 68) hx hb rz7 rco dX4_driestStackedOf_42 (by decide) (fun c8 => ?_) (fun c8 => ?_)
            · refine r_iinc (lv' := [(3, .int (iI (x3 + 1))), (4, .int (iI z1)), (2, .int (iI x2)), (0, .ref (ad G j 7)), (1, .int (iI co))]) hx hb dX4_driestStackedOf_68 hl (k := 1) rfl (by decide) rfl (fun ls hl => ?_)
              refine lv_goto (tgt := 11) hx hb dX4_driestStackedOf_71 (by decide) ?_
              exact ih11 x2 (x3 + 1) _ _ ls (by omega) (by omega) (by omega) (by first | (rw [bstI_t (by omega) (by unfold pQ; omega) (by rw [← i11_2]; omega)]) | (rw [bstI_f (by omega) (by rw [← i11_2]; unfold pQ; omega)]; exact i11_2)) hW (lv_sub hl [1, 0, 2, 3, 4] rfl)
            · refine lv_iload_n hx hb dX4_driestStackedOf_45 rfl (lv_at hl 2 rfl) ?_
              refine r_bipush hx hb dX4_driestStackedOf_46 (by decide) ?_
              refine r_icmp_eq (tgt := 66) hx hb ⟨by omega, by omega⟩ ⟨by omega, by omega⟩ dX4_driestStackedOf_48 (by decide) (fun c9 => ?_) (fun c9 => ?_)
              · refine lv_iload_n hx hb dX4_driestStackedOf_66 rfl (lv_at hl 1 rfl) ?_
                refine lv_istore_n (lv' := [(2, .int (iI x3)), (4, .int (iI z1)), (3, .int (iI x3)), (0, .ref (ad G j 7)), (1, .int (iI co))]) hx hb dX4_driestStackedOf_67 rfl hl (by decide) rfl (fun ls hl => ?_)
                refine r_iinc (lv' := [(3, .int (iI (x3 + 1))), (2, .int (iI x3)), (4, .int (iI z1)), (0, .ref (ad G j 7)), (1, .int (iI co))]) hx hb dX4_driestStackedOf_68 hl (k := 2) rfl (by decide) rfl (fun ls hl => ?_)
                refine lv_goto (tgt := 11) hx hb dX4_driestStackedOf_71 (by decide) ?_
                exact ih11 x3 (x3 + 1) _ _ ls (by omega) (by omega) (by omega) (by first | (rw [bstI_t (by omega) (by unfold pQ; omega) (by rw [← i11_2]; omega)]) | (rw [bstI_f (by omega) (by rw [← i11_2]; unfold pQ; omega)]; exact i11_2)) hW (lv_sub hl [2, 0, 1, 3, 4] rfl)
              · refine lv_aload_n hx hb dX4_driestStackedOf_51 rfl (lv_at hl 3 rfl) ?_
                refine r_gR C0 hW (ms_lt hj 7 (by decide)) (ceX_m hj G 7 _ _) rfl hiX4 (k := 2) (by decide) kf_X4_18 rfl rfl rfl dX4_driestStackedOf_52 ?_
                refine lv_iload_n hx hb dX4_driestStackedOf_55 rfl (lv_at hl 1 rfl) ?_
                refine r_ild C0 hW (ms_lt hj 10 (by decide)) (ceX_m hj G 10 _ _) (n := 120) (by omega) (by omega) (by omega) dX4_driestStackedOf_56 (fun z10 (hz10 : z10 = gA (w j) 10 x3) rz10 => ?_)
                have rz10a := rz10.1
                have rz10b := rz10.2
                refine lv_aload_n hx hb dX4_driestStackedOf_57 rfl (lv_at hl 3 rfl) ?_
                refine r_gR C0 hW (ms_lt hj 7 (by decide)) (ceX_m hj G 7 _ _) rfl hiX4 (k := 2) (by decide) kf_X4_18 rfl rfl rfl dX4_driestStackedOf_58 ?_
                refine lv_iload_n hx hb dX4_driestStackedOf_61 rfl (lv_at hl 2 rfl) ?_
                refine r_ild C0 hW (ms_lt hj 10 (by decide)) (ceX_m hj G 10 _ _) (n := 120) (by omega) (by omega) (by omega) dX4_driestStackedOf_62 (fun z11 (hz11 : z11 = gA (w j) 10 x2) rz11 => ?_)
                have rz11a := rz11.1
                have rz11b := rz11.2
                refine r_icmp_ge (tgt := 68) hx hb rz10 rz11 dX4_driestStackedOf_63 (by decide) (fun c12 => ?_) (fun c12 => ?_)
                · refine r_iinc (lv' := [(3, .int (iI (x3 + 1))), (4, .int (iI z1)), (2, .int (iI x2)), (0, .ref (ad G j 7)), (1, .int (iI co))]) hx hb dX4_driestStackedOf_68 hl (k := 1) rfl (by decide) rfl (fun ls hl => ?_)
                  refine lv_goto (tgt := 11) hx hb dX4_driestStackedOf_71 (by decide) ?_
                  exact ih11 x2 (x3 + 1) _ _ ls (by omega) (by omega) (by omega) (by first | (rw [bstI_t (by omega) (by unfold pQ; omega) (by rw [← i11_2]; omega)]) | (rw [bstI_f (by omega) (by rw [← i11_2]; unfold pQ; omega)]; exact i11_2)) hW (lv_sub hl [1, 0, 2, 3, 4] rfl)
                · refine lv_iload_n hx hb dX4_driestStackedOf_66 rfl (lv_at hl 1 rfl) ?_
                  refine lv_istore_n (lv' := [(2, .int (iI x3)), (4, .int (iI z1)), (3, .int (iI x3)), (0, .ref (ad G j 7)), (1, .int (iI co))]) hx hb dX4_driestStackedOf_67 rfl hl (by decide) rfl (fun ls hl => ?_)
                  refine r_iinc (lv' := [(3, .int (iI (x3 + 1))), (2, .int (iI x3)), (4, .int (iI z1)), (0, .ref (ad G j 7)), (1, .int (iI co))]) hx hb dX4_driestStackedOf_68 hl (k := 2) rfl (by decide) rfl (fun ls hl => ?_)
                  refine lv_goto (tgt := 11) hx hb dX4_driestStackedOf_71 (by decide) ?_
                  exact ih11 x3 (x3 + 1) _ _ ls (by omega) (by omega) (by omega) (by first | (rw [bstI_t (by omega) (by unfold pQ; omega) (by rw [← i11_2]; omega)]) | (rw [bstI_f (by omega) (by rw [← i11_2]; unfold pQ; omega)]; exact i11_2)) hW (lv_sub hl [2, 0, 1, 3, 4] rfl)
  exact hL11 121 (-5) 0 _ _ ls (by omega) (by omega) (by omega) (by rw [bstI_0]) hW (lv_sub hl [0, 1, 2, 3, 4] rfl)

/-- X4_peatsAtHearth: its end -/
def po_X4_peatsAtHearth (w : gW) (j : Nat) (r : Int) : Int → gW → Prop := fun z w1 => ((lyi (w j) r ∧ z = max 0 (40 - gA (w j) 10 r)) ∨ (¬ lyi (w j) r ∧ z = 0)) ∧ w = w1
theorem hdV_X4_peatsAtHearth : yX4_peatsAtHearth.cls = RX4 ∧ yX4_peatsAtHearth.cls ≠ "java/lang/invoke/MethodHandle" ∧ yX4_peatsAtHearth.cls ≠ "java/lang/invoke/VarHandle" ∧ (parseMethodDescriptor yX4_peatsAtHearth.desc).map (fun d => d.parameters.length) = some 1 := by decide +kernel
set_option maxHeartbeats 4000000 in
set_option maxRecDepth 100000 in
theorem c_X4_peatsAtHearth (l : Launch) (G : gG) (w : gW) {j : Nat} (hj : ms j) (hwf : wf (w j)) (r : Int) (rr : inR r) : mI l G yX4_peatsAtHearth (wU yX4_peatsAtHearth cX4_peatsAtHearth 2 (some .int)) (rmL 3 55) [.ref (ad G j 7), .int (iI r)] w (po_X4_peatsAtHearth w j r) := by
  refine mI_of (by decide +kernel) (Nat.le_of_ble_eq_true rfl) (fun p e s m args below meth c ls C0 hW hl => ?_)
  have hl : lv_has ls 2 [(0, .ref (ad G j 7)), (1, .int (iI r))] := hl
  have hx := C0.hx
  have hb := C0.hb
  obtain ⟨⟨hs1, hs2⟩, -⟩ := id hwf
  have hwet := hwf.2.2.1 r
  refine lv_aload_n hx hb dX4_peatsAtHearth_0 rfl (lv_at hl 0 rfl) ?_
  refine lv_iload_n hx hb dX4_peatsAtHearth_1 rfl (lv_at hl 1 rfl) ?_
  refine k_Vi (j := j) (k0 := 7) C0 hW (c_X4_isLying l G w hj hwf r rr) km_X4_61 ki_X4_isLying ke_X4_isLying kn_X4 kc_X4_isLying rfl hdV_X4_isLying ⟨by decide, by decide⟩ (ms_lt hj 7 (by decide)) (ceX_m hj G 7 _ _) rfl rfl hl.1 rfl (Nat.le_of_ble_eq_true rfl) dX4_peatsAtHearth_2 (fun z1 w1 H1 locs1 rz1 hp1 hW => ?_)
  obtain ⟨hp1, hq1⟩ := hp1
  subst hq1
  have rz1a := rz1.1
  have rz1b := rz1.2
  rcases hp1 with ⟨e1, hp1⟩ | ⟨e1, hp1⟩
  · subst e1
    obtain ⟨hp11, hp12, hp13⟩ := id hp1
    refine r_if_eq (tgt := 24) hx hb ⟨by omega, by omega⟩ dX4_peatsAtHearth_5 (by decide) (fun q => absurd q (by decide)) (fun _ => ?_)
    refine r_iconst hx hb dX4_peatsAtHearth_8 ?_
    refine r_bipush hx hb dX4_peatsAtHearth_9 (by decide) ?_
    refine lv_aload_n hx hb dX4_peatsAtHearth_11 rfl (lv_at hl 0 rfl) ?_
    refine r_gR C0 hW (ms_lt hj 7 (by decide)) (ceX_m hj G 7 _ _) rfl hiX4 (k := 2) (by decide) kf_X4_18 rfl rfl rfl dX4_peatsAtHearth_12 ?_
    refine lv_iload_n hx hb dX4_peatsAtHearth_15 rfl (lv_at hl 1 rfl) ?_
    refine r_ild C0 hW (ms_lt hj 10 (by decide)) (ceX_m hj G 10 _ _) (n := 120) (by omega) (by omega) (by omega) dX4_peatsAtHearth_16 (fun z2 (hz2 : z2 = gA (w j) 10 r) rz2 => ?_)
    have rz2a := rz2.1
    have rz2b := rz2.2
    refine r_isub hx hb dX4_peatsAtHearth_17 ?_
    refine r_max C0 ⟨by omega, by omega⟩ ⟨by omega, by omega⟩ km_X4_65 ks_J9_max_7cf53 kn_J9 kc_max rfl hl.1 (by decide) (Nat.le_of_ble_eq_true rfl) dX4_peatsAtHearth_18 ?_
    refine lv_goto (tgt := 25) hx hb dX4_peatsAtHearth_21 (by decide) ?_
    exact r_iret C0 hW ⟨by omega, by omega⟩ (⟨by first | (exact Or.inl ⟨by assumption, by omega⟩) | (exact Or.inr ⟨by assumption, rfl⟩), rfl⟩) dX4_peatsAtHearth_25
  · subst e1
    refine r_if_eq (tgt := 24) hx hb ⟨by omega, by omega⟩ dX4_peatsAtHearth_5 (by decide) (fun _ => ?_) (fun q => absurd q (by decide))
    refine r_iconst hx hb dX4_peatsAtHearth_24 ?_
    exact r_iret C0 hW ⟨by omega, by omega⟩ (⟨by first | (exact Or.inl ⟨by assumption, by omega⟩) | (exact Or.inr ⟨by assumption, rfl⟩), rfl⟩) dX4_peatsAtHearth_25

/-- X4_changeBy: its end -/
def po_X4_changeBy (w : gW) (v : Int) (t : Int) : Int → gW → Prop := fun z w1 => (z = chg v t) ∧ w = w1
theorem hdS_X4_changeBy : yX4_changeBy.cls ≠ "java/lang/invoke/MethodHandle" ∧ yX4_changeBy.cls ≠ "java/lang/invoke/VarHandle" ∧ (parseMethodDescriptor yX4_changeBy.desc).map (fun d => d.parameters.length) = some 2 := by decide +kernel
set_option maxHeartbeats 4000000 in
set_option maxRecDepth 100000 in
theorem c_X4_changeBy (l : Launch) (G : gG) (w : gW) (v : Int) (t : Int) (rv : inR v) (rt : inR t) : mI l G yX4_changeBy (wU yX4_changeBy cX4_changeBy 2 (some .int)) (rmL 0 0) [.int (iI v), .int (iI t)] w (po_X4_changeBy w v t) := by
  refine mI_of (by decide +kernel) (Nat.le_of_ble_eq_true rfl) (fun p e s m args below meth c ls C0 hW hl => ?_)
  have hl : lv_has ls 2 [(0, .int (iI v)), (1, .int (iI t))] := hl
  have hx := C0.hx
  have hb := C0.hb
  refine lv_iload_n hx hb dX4_changeBy_0 rfl (lv_at hl 0 rfl) ?_
  by_cases c1_0 : v = 0
  · refine lv_lookup (off := 27) (tgt := 28) hx hb dX4_changeBy_1 (by decide) (by rw [iI_t rv, c1_0] <;> rfl) (by decide) ?_
    refine lv_iload_n hx hb dX4_changeBy_28 rfl (lv_at hl 1 rfl) ?_
    refine r_if_eq (tgt := 37) hx hb rt dX4_changeBy_29 (by decide) (fun c2 => ?_) (fun c2 => ?_)
    · refine r_bipush hx hb dX4_changeBy_37 (by decide) ?_
      exact r_iret C0 hW ⟨by omega, by omega⟩ (⟨by unfold chg; simp [*], rfl⟩) dX4_changeBy_39
    · refine r_bipush hx hb dX4_changeBy_32 (by decide) ?_
      refine lv_goto (tgt := 39) hx hb dX4_changeBy_34 (by decide) ?_
      exact r_iret C0 hW ⟨by omega, by omega⟩ (⟨by unfold chg; simp [*], rfl⟩) dX4_changeBy_39
  by_cases c1_1 : v = 1
  · refine lv_lookup (off := 39) (tgt := 40) hx hb dX4_changeBy_1 (by decide) (by rw [iI_t rv, c1_1] <;> rfl) (by decide) ?_
    refine lv_iload_n hx hb dX4_changeBy_40 rfl (lv_at hl 1 rfl) ?_
    refine r_if_eq (tgt := 49) hx hb rt dX4_changeBy_41 (by decide) (fun c3 => ?_) (fun c3 => ?_)
    · refine r_bipush hx hb dX4_changeBy_49 (by decide) ?_
      exact r_iret C0 hW ⟨by omega, by omega⟩ (⟨by unfold chg; simp [*], rfl⟩) dX4_changeBy_51
    · refine r_bipush hx hb dX4_changeBy_44 (by decide) ?_
      refine lv_goto (tgt := 51) hx hb dX4_changeBy_46 (by decide) ?_
      exact r_iret C0 hW ⟨by omega, by omega⟩ (⟨by unfold chg; simp [*], rfl⟩) dX4_changeBy_51
  refine lv_lookup (off := 51) (tgt := 52) hx hb dX4_changeBy_1 (by decide) (by rw [iI_t rv]; show Op.lookupswitch.offset [(0, 27), (1, 39)] 51 _ = _; rw [Op.lookupswitch.offset_cons, if_neg (fun q => c1_0 q.symm)]; rw [Op.lookupswitch.offset_cons, if_neg (fun q => c1_1 q.symm)] <;> rfl) (by decide) ?_
  refine r_iconst hx hb dX4_changeBy_52 ?_
  exact r_iret C0 hW ⟨by omega, by omega⟩ (⟨by unfold chg; simp [*], rfl⟩) dX4_changeBy_53

/-- X4_dryOrWet: its end -/
def po_X4_dryOrWet (w : gW) (j : Nat) (v : Int) : gW → Prop := fun w1 => w1 = up w j (sF (w j) 10 (wetF (w j) v (gN (w j) 7 6)))
theorem hdV_X4_dryOrWet : yX4_dryOrWet.cls = RX4 ∧ yX4_dryOrWet.cls ≠ "java/lang/invoke/MethodHandle" ∧ yX4_dryOrWet.cls ≠ "java/lang/invoke/VarHandle" ∧ (parseMethodDescriptor yX4_dryOrWet.desc).map (fun d => d.parameters.length) = some 1 := by decide +kernel
set_option maxHeartbeats 4000000 in
set_option maxRecDepth 100000 in
theorem c_X4_dryOrWet (l : Launch) (G : gG) (w : gW) {j : Nat} (hj : ms j) (hwf : wf (w j)) (v : Int) (rv : inR v) : mV l G yX4_dryOrWet (wU yX4_dryOrWet cX4_dryOrWet 5 none) (rmL 2 34) [.ref (ad G j 7), .int (iI v)] w (po_X4_dryOrWet w j v) := by
  refine mV_of (by decide +kernel) (Nat.le_of_ble_eq_true rfl) (fun p e s m args below meth c ls C0 hW hl => ?_)
  have hl : lv_has ls 5 [(0, .ref (ad G j 7)), (1, .int (iI v))] := hl
  have hx := C0.hx
  have hb := C0.hb
  obtain ⟨⟨hs1, hs2⟩, -⟩ := id hwf
  have hwet := hwf.2.2.1
  refine r_iconst hx hb dX4_dryOrWet_0 ?_
  refine lv_istore_n (lv' := [(2, .int (iI 0)), (0, .ref (ad G j 7)), (1, .int (iI v))]) hx hb dX4_dryOrWet_1 rfl hl (by decide) rfl (fun ls hl => ?_)
  refine lv_aload_n hx hb dX4_dryOrWet_2 rfl (lv_at hl 1 rfl) ?_
  refine k_Vi (j := j) (k0 := 7) C0 hW (c_X4_end l G w hj hwf) km_X4_53 ki_X4_end ke_X4_end kn_X4 kc_X4_end rfl hdV_X4_end ⟨by decide, by decide⟩ (ms_lt hj 7 (by decide)) (ceX_m hj G 7 _ _) rfl rfl hl.1 rfl (Nat.le_of_ble_eq_true rfl) dX4_dryOrWet_3 (fun z1 w1 H1 locs1 rz1 hp1 hW => ?_)
  obtain ⟨hp1, hq1⟩ := hp1
  subst hq1
  have rz1a := rz1.1
  have rz1b := rz1.2
  refine lv_istore_n (lv' := [(3, .int (iI z1)), (2, .int (iI 0)), (0, .ref (ad G j 7)), (1, .int (iI v))]) hx hb dX4_dryOrWet_6 rfl hl (by decide) rfl (fun ls hl => ?_)
  have hL7 : ∀ (n : Nat) (x2 : Int) (wv : gW) (hwv : wv = up w j (sF (w j) 10 (wetF (w j) v x2))) (H0 : Heap) (locs0 : List Loc) (ls : Array Slot) (hm : gN (w j) 7 6 - x2 < (n : Int)) (i7_0 : 0 ≤ x2) (i7_1 : x2 ≤ gN (w j) 7 6) (hW : wo G wv s H0 locs0) (hl : lv_has ls 5 [(3, .int (iI z1)), (2, .int (iI x2)), (0, .ref (ad G j 7)), (1, .int (iI v))]), W p l e (rmL 2 34) s m args below meth c H0 locs0 0 0 (QV G (po_X4_dryOrWet w j v) below args s) (F0 m 7 ls []) := by
    intro n
    induction n with
    | zero =>
      intro x2 wv hwv H0 locs0 ls hm i7_0 i7_1 hW hl
      exact absurd hm (by omega)
    | succ n ih7 =>
      intro x2 wv hwv H0 locs0 ls hm i7_0 i7_1 hW hl
      have hwx := hwet x2
      have hch := chg_le v (gA (w j) 11 x2)
      refine lv_iload_n hx hb dX4_dryOrWet_7 rfl (lv_at hl 1 rfl) ?_
      refine lv_iload_n hx hb dX4_dryOrWet_8 rfl (lv_at hl 0 rfl) ?_
      refine r_icmp_ge (tgt := 72) hx hb ⟨by omega, by omega⟩ rz1 dX4_dryOrWet_9 (by decide) (fun c2 => ?_) (fun c2 => ?_)
      · exact r_vret C0 hW (by unfold po_X4_dryOrWet; rw [show gN (w j) 7 6 = x2 from by omega]; exact hwv) dX4_dryOrWet_72
      · refine lv_aload_n hx hb dX4_dryOrWet_12 rfl (lv_at hl 2 rfl) ?_
        refine r_gR C0 hW (ms_lt hj 7 (by decide)) (ceX_m hj G 7 _ _) rfl hiX4 (k := 5) (by decide) kf_X4_28 rfl rfl rfl dX4_dryOrWet_13 ?_
        refine lv_iload_n hx hb dX4_dryOrWet_16 rfl (lv_at hl 1 rfl) ?_
        refine r_zld C0 hW (ms_lt hj 13 (by decide)) (ceX_m hj G 13 _ _) (n := 120) (by omega) (by omega) (by omega) dX4_dryOrWet_17 (fun z3 (hz3 : z3 = gA (wv j) 13 x2) rz3 => ?_)
        have rz3a := rz3.1
        have rz3b := rz3.2
        try simp (decide := true) only [hwv, up_s, gA_sF, gN_sF, gA_sA, gN_sA, gA_sS, gN_sS, if_true, if_false, true_and, and_true, false_and, and_false, gA_wx] at hz3
        refine r_if_eq (tgt := 66) hx hb rz3 dX4_dryOrWet_18 (by decide) (fun c4 => ?_) (fun c4 => ?_)
        · refine r_iinc (lv' := [(2, .int (iI (x2 + 1))), (3, .int (iI z1)), (0, .ref (ad G j 7)), (1, .int (iI v))]) hx hb dX4_dryOrWet_66 hl (k := 1) rfl (by decide) rfl (fun ls hl => ?_)
          refine lv_goto (tgt := 7) hx hb dX4_dryOrWet_69 (by decide) ?_
          exact ih7 (x2 + 1) _ (by first | (rw [wetF_f (by omega)]; exact hwv) | (simp only [hwv, up_up, up_s, sA_sF]; rw [wetF_t (by omega) (by omega) (by omega)]; congr; funext i; congr 3; omega)) _ _ ls (by omega) (by omega) (by omega) hW (lv_sub hl [1, 0, 2, 3] rfl)
        · refine lv_aload_n hx hb dX4_dryOrWet_21 rfl (lv_at hl 2 rfl) ?_
          refine r_gR C0 hW (ms_lt hj 7 (by decide)) (ceX_m hj G 7 _ _) rfl hiX4 (k := 4) (by decide) kf_X4_25 rfl rfl rfl dX4_dryOrWet_22 ?_
          refine lv_iload_n hx hb dX4_dryOrWet_25 rfl (lv_at hl 1 rfl) ?_
          refine r_zld C0 hW (ms_lt hj 12 (by decide)) (ceX_m hj G 12 _ _) (n := 120) (by omega) (by omega) (by omega) dX4_dryOrWet_26 (fun z5 (hz5 : z5 = gA (wv j) 12 x2) rz5 => ?_)
          have rz5a := rz5.1
          have rz5b := rz5.2
          try simp (decide := true) only [hwv, up_s, gA_sF, gN_sF, gA_sA, gN_sA, gA_sS, gN_sS, if_true, if_false, true_and, and_true, false_and, and_false, gA_wx] at hz5
          refine r_if_ne (tgt := 66) hx hb rz5 dX4_dryOrWet_27 (by decide) (fun c6 => ?_) (fun c6 => ?_)
          · refine r_iinc (lv' := [(2, .int (iI (x2 + 1))), (3, .int (iI z1)), (0, .ref (ad G j 7)), (1, .int (iI v))]) hx hb dX4_dryOrWet_66 hl (k := 1) rfl (by decide) rfl (fun ls hl => ?_)
            refine lv_goto (tgt := 7) hx hb dX4_dryOrWet_69 (by decide) ?_
            exact ih7 (x2 + 1) _ (by first | (rw [wetF_f (by omega)]; exact hwv) | (simp only [hwv, up_up, up_s, sA_sF]; rw [wetF_t (by omega) (by omega) (by omega)]; congr; funext i; congr 3; omega)) _ _ ls (by omega) (by omega) (by omega) hW (lv_sub hl [1, 0, 2, 3] rfl)
          · refine lv_aload_n hx hb dX4_dryOrWet_30 rfl (lv_at hl 2 rfl) ?_
            refine r_gR C0 hW (ms_lt hj 7 (by decide)) (ceX_m hj G 7 _ _) rfl hiX4 (k := 2) (by decide) kf_X4_18 rfl rfl rfl dX4_dryOrWet_31 ?_
            refine lv_iload_n hx hb dX4_dryOrWet_34 rfl (lv_at hl 1 rfl) ?_
            refine r_ild C0 hW (ms_lt hj 10 (by decide)) (ceX_m hj G 10 _ _) (n := 120) (by omega) (by omega) (by omega) dX4_dryOrWet_35 (fun z7 (hz7 : z7 = gA (wv j) 10 x2) rz7 => ?_)
            have rz7a := rz7.1
            have rz7b := rz7.2
            try simp (decide := true) only [hwv, up_s, gA_sF, gN_sF, gA_sA, gN_sA, gA_sS, gN_sS, if_true, if_false, true_and, and_true, false_and, and_false, gA_wx] at hz7
            refine lv_iload_n hx hb dX4_dryOrWet_36 rfl (lv_at hl 3 rfl) ?_
            refine lv_aload_n hx hb dX4_dryOrWet_37 rfl (lv_at hl 2 rfl) ?_
            refine r_gR C0 hW (ms_lt hj 7 (by decide)) (ceX_m hj G 7 _ _) rfl hiX4 (k := 3) (by decide) kf_X4_21 rfl rfl rfl dX4_dryOrWet_38 ?_
            refine lv_iload_n hx hb dX4_dryOrWet_41 rfl (lv_at hl 1 rfl) ?_
            refine r_zld C0 hW (ms_lt hj 11 (by decide)) (ceX_m hj G 11 _ _) (n := 120) (by omega) (by omega) (by omega) dX4_dryOrWet_42 (fun z8 (hz8 : z8 = gA (wv j) 11 x2) rz8 => ?_)
            have rz8a := rz8.1
            have rz8b := rz8.2
            try simp (decide := true) only [hwv, up_s, gA_sF, gN_sF, gA_sA, gN_sA, gA_sS, gN_sS, if_true, if_false, true_and, and_true, false_and, and_false, gA_wx] at hz8
            refine k_Si (host := "") C0 hW (As := [.int (iI v), .int (iI z8)]) (c_X4_changeBy l G wv v z8 rv rz8) km_X4_88 ks_X4_changeBy kn_X4 kc_X4_changeBy rfl hdS_X4_changeBy ⟨by decide, by decide⟩ rfl hl.1 rfl (Nat.le_of_ble_eq_true rfl) dX4_dryOrWet_43 (fun z9 w9 H1 locs1 rz9 hp9 hW => ?_)
            obtain ⟨hp9, hq9⟩ := hp9
            subst hq9
            have rz9a := rz9.1
            have rz9b := rz9.2
            try simp (decide := true) only [hwv, up_s, gA_sF, gN_sF, gA_sA, gN_sA, gA_sS, gN_sS, if_true, if_false, true_and, and_true, false_and, and_false, gA_wx] at hp9
            simp only [hz3, hz5, hz7, hz8] at hp9
            refine r_iadd hx hb dX4_dryOrWet_46 ?_
            refine lv_istore (lv' := [(4, .int (iI (z7 + z9))), (3, .int (iI z1)), (2, .int (iI x2)), (0, .ref (ad G j 7)), (1, .int (iI v))]) hx hb dX4_dryOrWet_47 hl (by decide) rfl (fun ls hl => ?_)
            refine lv_aload_n hx hb dX4_dryOrWet_49 rfl (lv_at hl 3 rfl) ?_
            refine r_gR C0 hW (ms_lt hj 7 (by decide)) (ceX_m hj G 7 _ _) rfl hiX4 (k := 2) (by decide) kf_X4_18 rfl rfl rfl dX4_dryOrWet_50 ?_
            refine lv_iload_n hx hb dX4_dryOrWet_53 rfl (lv_at hl 2 rfl) ?_
            refine r_iconst hx hb dX4_dryOrWet_54 ?_
            refine r_bipush hx hb dX4_dryOrWet_55 (by decide) ?_
            refine lv_iload hx hb dX4_dryOrWet_57 (lv_at hl 0 rfl) ?_
            refine r_min C0 ⟨by omega, by omega⟩ ⟨by omega, by omega⟩ km_X4_43 ks_J9_min_7cf53 kn_J9 kc_min rfl hl.1 (by decide) (Nat.le_of_ble_eq_true rfl) dX4_dryOrWet_59 ?_
            refine r_max C0 ⟨by omega, by omega⟩ ⟨by omega, by omega⟩ km_X4_65 ks_J9_max_7cf53 kn_J9 kc_max rfl hl.1 (by decide) (Nat.le_of_ble_eq_true rfl) dX4_dryOrWet_62 ?_
            refine r_ist C0 hW (ms_lt hj 10 (by decide)) (fun A => (ceX_m hj G 10 _ _)) (n := 120) (v := iI (max 0 (min 60 (z7 + z9)))) (by omega) (by omega) (by decide) dX4_dryOrWet_65 (fun H1 locs1 hW => ?_)
            obtain ⟨w10, hw10⟩ : ∃ wq9 : gW, wq9 = up wv j (sA (wv j) 10 x2 (iI (max 0 (min 60 (z7 + z9))))) := ⟨_, rfl⟩
            rw [← hw10] at hW
            refine r_iinc (lv' := [(2, .int (iI (x2 + 1))), (4, .int (iI (z7 + z9))), (3, .int (iI z1)), (0, .ref (ad G j 7)), (1, .int (iI v))]) hx hb dX4_dryOrWet_66 hl (k := 2) rfl (by decide) rfl (fun ls hl => ?_)
            refine lv_goto (tgt := 7) hx hb dX4_dryOrWet_69 (by decide) ?_
            exact ih7 (x2 + 1) _ (by first | (rw [wetF_f (by omega)]; exact hwv) | (simp only [hw10, hwv, up_up, up_s, sA_sF]; rw [wetF_t (by omega) (by omega) (by omega)]; congr; funext i; congr 3; omega)) _ _ ls (by omega) (by omega) (by omega) hW (lv_sub hl [2, 0, 3, 4] rfl)
  exact hL7 121 0 _ (by rw [wetF_0, sF_id, up_id]) _ _ ls (by omega) (by omega) (by omega) hW (lv_sub hl [0, 1, 2, 3] rfl)

/-- X4_loseAll: its end -/
def po_X4_loseAll (w : gW) (j : Nat) : Int → gW → Prop := fun z w1 => z = cntI (pLy (w j)) (gN (w j) 7 6) ∧ w1 = up w j (sF (w j) 13 (zeF (w j) 13 (gN (w j) 7 6)))
theorem hdV_X4_loseAll : yX4_loseAll.cls = RX4 ∧ yX4_loseAll.cls ≠ "java/lang/invoke/MethodHandle" ∧ yX4_loseAll.cls ≠ "java/lang/invoke/VarHandle" ∧ (parseMethodDescriptor yX4_loseAll.desc).map (fun d => d.parameters.length) = some 0 := by decide +kernel
set_option maxHeartbeats 4000000 in
set_option maxRecDepth 100000 in
theorem c_X4_loseAll (l : Launch) (G : gG) (w : gW) {j : Nat} (hj : ms j) (hwf : wf (w j)) : mI l G yX4_loseAll (wU yX4_loseAll cX4_loseAll 4 (some .int)) (rmL 3 57) [.ref (ad G j 7)] w (po_X4_loseAll w j) := by
  refine mI_of (by decide +kernel) (Nat.le_of_ble_eq_true rfl) (fun p e s m args below meth c ls C0 hW hl => ?_)
  have hl : lv_has ls 4 [(0, .ref (ad G j 7))] := hl
  have hx := C0.hx
  have hb := C0.hb
  obtain ⟨⟨hs1, hs2⟩, -⟩ := id hwf
  refine lv_aload_n hx hb dX4_loseAll_0 rfl (lv_at hl 0 rfl) ?_
  refine k_Vi (j := j) (k0 := 7) C0 hW (c_X4_countLying l G w hj hwf) km_X4_92 ki_X4_countLying ke_X4_countLying kn_X4 kc_X4_countLying rfl hdV_X4_countLying ⟨by decide, by decide⟩ (ms_lt hj 7 (by decide)) (ceX_m hj G 7 _ _) rfl rfl hl.1 rfl (Nat.le_of_ble_eq_true rfl) dX4_loseAll_1 (fun z1 w1 H1 locs1 rz1 hp1 hW => ?_)
  obtain ⟨hp1, hq1⟩ := hp1
  subst hq1
  have rz1a := rz1.1
  have rz1b := rz1.2
  refine lv_istore_n (lv' := [(1, .int (iI z1)), (0, .ref (ad G j 7))]) hx hb dX4_loseAll_4 rfl hl (by decide) rfl (fun ls hl => ?_)
  refine r_iconst hx hb dX4_loseAll_5 ?_
  refine lv_istore_n (lv' := [(2, .int (iI 0)), (1, .int (iI z1)), (0, .ref (ad G j 7))]) hx hb dX4_loseAll_6 rfl hl (by decide) rfl (fun ls hl => ?_)
  refine lv_aload_n hx hb dX4_loseAll_7 rfl (lv_at hl 2 rfl) ?_
  refine k_Vi (j := j) (k0 := 7) C0 hW (c_X4_end l G w hj hwf) km_X4_53 ki_X4_end ke_X4_end kn_X4 kc_X4_end rfl hdV_X4_end ⟨by decide, by decide⟩ (ms_lt hj 7 (by decide)) (ceX_m hj G 7 _ _) rfl rfl hl.1 rfl (Nat.le_of_ble_eq_true rfl) dX4_loseAll_8 (fun z2 w2 H1 locs1 rz2 hp2 hW => ?_)
  obtain ⟨hp2, hq2⟩ := hp2
  subst hq2
  have rz2a := rz2.1
  have rz2b := rz2.2
  refine lv_istore_n (lv' := [(3, .int (iI z2)), (2, .int (iI 0)), (1, .int (iI z1)), (0, .ref (ad G j 7))]) hx hb dX4_loseAll_11 rfl hl (by decide) rfl (fun ls hl => ?_)
  have hL12 : ∀ (n : Nat) (x2 : Int) (wv : gW) (hwv : wv = up w j (sF (w j) 13 (zeF (w j) 13 x2))) (H0 : Heap) (locs0 : List Loc) (ls : Array Slot) (hm : gN (w j) 7 6 - x2 < (n : Int)) (i12_0 : 0 ≤ x2) (i12_1 : x2 ≤ gN (w j) 7 6) (hW : wo G wv s H0 locs0) (hl : lv_has ls 4 [(3, .int (iI z2)), (2, .int (iI x2)), (1, .int (iI z1)), (0, .ref (ad G j 7))]), W p l e (rmL 3 57) s m args below meth c H0 locs0 0 0 (QI G (po_X4_loseAll w j) below args s) (F0 m 12 ls []) := by
    intro n
    induction n with
    | zero =>
      intro x2 wv hwv H0 locs0 ls hm i12_0 i12_1 hW hl
      exact absurd hm (by omega)
    | succ n ih12 =>
      intro x2 wv hwv H0 locs0 ls hm i12_0 i12_1 hW hl
      refine lv_iload_n hx hb dX4_loseAll_12 rfl (lv_at hl 1 rfl) ?_
      refine lv_iload_n hx hb dX4_loseAll_13 rfl (lv_at hl 0 rfl) ?_
      refine r_icmp_ge (tgt := 30) hx hb ⟨by omega, by omega⟩ rz2 dX4_loseAll_14 (by decide) (fun c3 => ?_) (fun c3 => ?_)
      · refine lv_iload_n hx hb dX4_loseAll_30 rfl (lv_at hl 2 rfl) ?_
        exact r_iret C0 hW rz1 (⟨by omega, by rw [show gN (w j) 7 6 = x2 from by omega]; exact hwv⟩) dX4_loseAll_31
      · refine lv_aload_n hx hb dX4_loseAll_17 rfl (lv_at hl 3 rfl) ?_
        refine r_gR C0 hW (ms_lt hj 7 (by decide)) (ceX_m hj G 7 _ _) rfl hiX4 (k := 5) (by decide) kf_X4_28 rfl rfl rfl dX4_loseAll_18 ?_
        refine lv_iload_n hx hb dX4_loseAll_21 rfl (lv_at hl 1 rfl) ?_
        refine r_iconst hx hb dX4_loseAll_22 ?_
        refine r_zst C0 hW (ms_lt hj 13 (by decide)) (fun A => (ceX_m hj G 13 _ _)) (n := 120) (v := iI 0) (iI_narz (by first | exact Or.inl rfl | exact Or.inr rfl | omega)) (by omega) (by omega) (by decide) dX4_loseAll_23 (fun H1 locs1 hW => ?_)
        obtain ⟨w4, hw4⟩ : ∃ wq9 : gW, wq9 = up wv j (sA (wv j) 13 x2 (iI 0)) := ⟨_, rfl⟩
        rw [← hw4] at hW
        refine r_iinc (lv' := [(2, .int (iI (x2 + 1))), (3, .int (iI z2)), (1, .int (iI z1)), (0, .ref (ad G j 7))]) hx hb dX4_loseAll_24 hl (k := 1) rfl (by decide) rfl (fun ls hl => ?_)
        refine lv_goto (tgt := 12) hx hb dX4_loseAll_27 (by decide) ?_
        exact ih12 (x2 + 1) _ (by simp only [hw4, hwv, up_up, up_s, sA_sF]; rw [zeF_s _ _ (by omega)]) _ _ ls (by omega) (by omega) (by omega) hW (lv_sub hl [1, 0, 2, 3] rfl)
  exact hL12 121 0 _ (by rw [zeF_0, sF_id, up_id]) _ _ ls (by omega) (by omega) (by omega) hW (lv_sub hl [0, 1, 2, 3] rfl)
