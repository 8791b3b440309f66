/-- X6_rowsOf: its end -/
def po_X6_rowsOf (w : gW) (co : Int) (b : Int) : Int → gW → Prop := fun z w1 => ((b = 0 ∧ z = cntI (qWh ((w 10).1 1) co) (aI ((w 10).1 1) 4)) ∨ (b = 1 ∧ z = cntI (qWS ((w 10).1 1) co) (aI ((w 10).1 1) 4))) ∧ w = w1
theorem hdV_X6_rowsOf : yX6_rowsOf.cls = RX6 ∧ yX6_rowsOf.cls ≠ "java/lang/invoke/MethodHandle" ∧ yX6_rowsOf.cls ≠ "java/lang/invoke/VarHandle" ∧ (parseMethodDescriptor yX6_rowsOf.desc).map (fun d => d.parameters.length) = some 2 := by decide +kernel
set_option maxHeartbeats 4000000 in
set_option maxRecDepth 100000 in
theorem c_X6_rowsOf (l : Launch) (G : gG) (w : gW) (co : Int) (b : Int) (rco : inR co) (rb : inR b) (hL9 : 0 ≤ aI ((w 10).1 1) 4 ∧ aI ((w 10).1 1) 4 ≤ 60) (hb9 : b = 0 ∨ b = 1) : mI l G yX6_rowsOf (wU yX6_rowsOf cX6_rowsOf 5 (some .int)) (rmL 1 22) [.ref (ad G 10 0), .int (iI co), .int (iI b)] w (po_X6_rowsOf w co b) := by
  refine mI_of (by decide +kernel) (Nat.le_of_ble_eq_true rfl) (fun p e s m args below meth c ls C0 hW hl => ?_)
  have hl : lv_has ls 5 [(0, .ref (ad G 10 0)), (1, .int (iI co)), (2, .int (iI b))] := hl
  have hx := C0.hx
  have hb := C0.hb
  refine r_iconst hx hb dX6_rowsOf_0 ?_
  refine lv_istore_n (lv' := [(3, .int (iI 0)), (0, .ref (ad G 10 0)), (1, .int (iI co)), (2, .int (iI b))]) hx hb dX6_rowsOf_1 rfl hl (by decide) rfl (fun ls hl => ?_)
  refine r_iconst hx hb dX6_rowsOf_2 ?_
  refine lv_istore (lv' := [(4, .int (iI 0)), (3, .int (iI 0)), (0, .ref (ad G 10 0)), (1, .int (iI co)), (2, .int (iI b))]) hx hb dX6_rowsOf_3 hl (by decide) rfl (fun ls hl => ?_)
  have hL5 : ∀ (n : Nat) (x3 : Int) (x4 : Int) (H0 : Heap) (locs0 : List Loc) (ls : Array Slot) (hm : aI ((w 10).1 1) 4 - x4 < (n : Int)) (i5_0 : 0 ≤ x4) (i5_1 : x4 ≤ aI ((w 10).1 1) 4) (i5_2 : (b = 0 ∧ x3 = cntI (qWh ((w 10).1 1) co) x4) ∨ (b = 1 ∧ x3 = cntI (qWS ((w 10).1 1) co) x4)) (hW : wo G w s H0 locs0) (hl : lv_has ls 5 [(4, .int (iI x4)), (3, .int (iI x3)), (0, .ref (ad G 10 0)), (1, .int (iI co)), (2, .int (iI b))]), W p l e (rmL 1 22) s m args below meth c H0 locs0 0 0 (QI G (po_X6_rowsOf w co b) below args s) (F0 m 5 ls []) := by
    intro n
    induction n with
    | zero =>
      intro x3 x4 H0 locs0 ls hm i5_0 i5_1 i5_2 hW hl
      exact absurd hm (by omega)
    | succ n ih5 =>
      intro x3 x4 H0 locs0 ls hm i5_0 i5_1 i5_2 hW hl
      have hcl := cntI_le (qWh ((w 10).1 1) co) i5_0
      have hcl2 := cntI_le (qWS ((w 10).1 1) co) i5_0
      refine lv_iload hx hb dX6_rowsOf_5 (lv_at hl 0 rfl) ?_
      refine lv_aload_n hx hb dX6_rowsOf_7 rfl (lv_at hl 2 rfl) ?_
      refine r_gR C0 hW (show 10 < 11 ∧ 0 < bs 10 from ⟨by decide, by decide⟩) rfl rfl hiX6 (k := 1) (by decide) kf_X6_7 rfl rfl rfl dX6_rowsOf_8 ?_
      refine r_iconst hx hb dX6_rowsOf_11 ?_
      refine r_ild C0 hW (show 10 < 11 ∧ 1 < bs 10 from ⟨by decide, by decide⟩) rfl (n := 941) (by omega) (by omega) (by omega) dX6_rowsOf_12 (fun z1 (hz1 : z1 = gA (w 10) 1 4) rz1 => ?_)
      have rz1a := rz1.1
      have rz1b := rz1.2
      try simp (decide := true) only [id, up_s, gA_s, gA_sn, gN_sF, gA_sS, gN_sS, sA_st, sF_sF, sF_sS, sS_sS, arr_s, arr_n, arr_S, gA_aI, if_true, if_false, true_and, and_true, false_and, and_false, recS_1, gN_rec, iIt0, iIt1] at hz1
      refine r_icmp_ge (tgt := 56) hx hb ⟨by omega, by omega⟩ rz1 dX6_rowsOf_13 (by decide) (fun c2 => ?_) (fun c2 => ?_)
      · refine lv_iload_n hx hb dX6_rowsOf_56 rfl (lv_at hl 1 rfl) ?_
        exact r_iret C0 hW ⟨by omega, by omega⟩ (⟨by rw [show aI ((w 10).1 1) 4 = x4 from by omega]; omega, rfl⟩) dX6_rowsOf_57
      · refine lv_iload_n hx hb dX6_rowsOf_16 rfl (lv_at hl 1 rfl) ?_
        refine lv_aload_n hx hb dX6_rowsOf_17 rfl (lv_at hl 2 rfl) ?_
        refine lv_iload hx hb dX6_rowsOf_18 (lv_at hl 0 rfl) ?_
        refine r_iconst hx hb dX6_rowsOf_20 ?_
        refine k_Vi (j := 10) (k0 := 0) C0 hW (c_X6_ofRow l G w x4 1 ⟨by omega, by omega⟩ ⟨by omega, by omega⟩ (by omega)) km_X6_36 ki_X6_ofRow ke_X6_ofRow kn_X6 kc_X6_ofRow rfl hdV_X6_ofRow ⟨by decide, by decide⟩ (show 10 < 11 ∧ 0 < bs 10 from ⟨by decide, by decide⟩) rfl rfl rfl hl.1 rfl (Nat.le_of_ble_eq_true rfl) dX6_rowsOf_21 (fun z3 w3 H1 locs1 rz3 hp3 hW => ?_)
        obtain ⟨hp3, hq3⟩ := hp3
        subst hq3
        have rz3a := rz3.1
        have rz3b := rz3.2
        try simp (decide := true) only [id, up_s, gA_s, gA_sn, gN_sF, gA_sS, gN_sS, sA_st, sF_sF, sF_sS, sS_sS, arr_s, arr_n, arr_S, gA_aI, if_true, if_false, true_and, and_true, false_and, and_false, recS_1, gN_rec, iIt0, iIt1] at hp3
        refine lv_iload_n hx hb dX6_rowsOf_24 rfl (lv_at hl 3 rfl) ?_
        refine r_icmp_ne (tgt := 47) hx hb rz3 rco dX6_rowsOf_25 (by decide) (fun c4 => ?_) (fun c4 => ?_)
        · refine r_iconst hx hb dX6_rowsOf_47 ?_
          refine r_iadd hx hb dX6_rowsOf_48 ?_
          refine lv_istore_n (lv' := [(3, .int (iI (x3 + 0))), (4, .int (iI x4)), (0, .ref (ad G 10 0)), (1, .int (iI co)), (2, .int (iI b))]) hx hb dX6_rowsOf_49 rfl hl (by decide) rfl (fun ls hl => ?_)
          refine r_iinc (lv' := [(4, .int (iI (x4 + 1))), (3, .int (iI (x3 + 0))), (0, .ref (ad G 10 0)), (1, .int (iI co)), (2, .int (iI b))]) hx hb dX6_rowsOf_50 hl (k := 1) rfl (by decide) rfl (fun ls hl => ?_)
          refine lv_goto (tgt := 5) hx hb dX6_rowsOf_53 (by decide) ?_
          exact ih5 (x3 + 0) (x4 + 1) _ _ ls (by omega) (by omega) (by omega) (by rcases i5_2 with ⟨hb, hx3⟩ | ⟨hb, hx3⟩; (refine Or.inl ⟨hb, ?_⟩; first | (rw [cntI_t (by omega) (by unfold qWh; omega)]; omega) | (rw [cntI_f (by omega) (by unfold qWh; omega)]; omega)); (refine Or.inr ⟨hb, ?_⟩; first | (rw [cntI_t (by omega) (by unfold qWS; omega)]; omega) | (rw [cntI_f (by omega) (by unfold qWS; omega)]; omega))) hW (lv_sub hl [0, 1, 2, 3, 4] rfl)
        · refine lv_iload_n hx hb dX6_rowsOf_28 rfl (lv_at hl 4 rfl) ?_
          refine r_if_eq (tgt := 43) hx hb rb dX6_rowsOf_29 (by decide) (fun c5 => ?_) (fun c5 => ?_)
          · refine r_iconst hx hb dX6_rowsOf_43 ?_
            refine lv_goto (tgt := 48) hx hb dX6_rowsOf_44 (by decide) ?_
            refine r_iadd hx hb dX6_rowsOf_48 ?_
            refine lv_istore_n (lv' := [(3, .int (iI (x3 + 1))), (4, .int (iI x4)), (0, .ref (ad G 10 0)), (1, .int (iI co)), (2, .int (iI b))]) hx hb dX6_rowsOf_49 rfl hl (by decide) rfl (fun ls hl => ?_)
            refine r_iinc (lv' := [(4, .int (iI (x4 + 1))), (3, .int (iI (x3 + 1))), (0, .ref (ad G 10 0)), (1, .int (iI co)), (2, .int (iI b))]) hx hb dX6_rowsOf_50 hl (k := 1) rfl (by decide) rfl (fun ls hl => ?_)
            refine lv_goto (tgt := 5) hx hb dX6_rowsOf_53 (by decide) ?_
            exact ih5 (x3 + 1) (x4 + 1) _ _ ls (by omega) (by omega) (by omega) (by rcases i5_2 with ⟨hb, hx3⟩ | ⟨hb, hx3⟩; (refine Or.inl ⟨hb, ?_⟩; first | (rw [cntI_t (by omega) (by unfold qWh; omega)]; omega) | (rw [cntI_f (by omega) (by unfold qWh; omega)]; omega)); (refine Or.inr ⟨hb, ?_⟩; first | (rw [cntI_t (by omega) (by unfold qWS; omega)]; omega) | (rw [cntI_f (by omega) (by unfold qWS; omega)]; omega))) hW (lv_sub hl [0, 1, 2, 3, 4] rfl)
          · refine lv_aload_n hx hb dX6_rowsOf_32 rfl (lv_at hl 2 rfl) ?_
            refine lv_iload hx hb dX6_rowsOf_33 (lv_at hl 0 rfl) ?_
            refine r_iconst hx hb dX6_rowsOf_35 ?_
            refine k_Vi (j := 10) (k0 := 0) C0 hW (c_X6_ofRow l G w x4 5 ⟨by omega, by omega⟩ ⟨by omega, by omega⟩ (by omega)) km_X6_36 ki_X6_ofRow ke_X6_ofRow kn_X6 kc_X6_ofRow rfl hdV_X6_ofRow ⟨by decide, by decide⟩ (show 10 < 11 ∧ 0 < bs 10 from ⟨by decide, by decide⟩) rfl rfl rfl hl.1 rfl (Nat.le_of_ble_eq_true rfl) dX6_rowsOf_36 (fun z6 w6 H1 locs1 rz6 hp6 hW => ?_)
            obtain ⟨hp6, hq6⟩ := hp6
            subst hq6
            have rz6a := rz6.1
            have rz6b := rz6.2
            try simp (decide := true) only [id, up_s, gA_s, gA_sn, gN_sF, gA_sS, gN_sS, sA_st, sF_sF, sF_sS, sS_sS, arr_s, arr_n, arr_S, gA_aI, if_true, if_false, true_and, and_true, false_and, and_false, recS_1, gN_rec, iIt0, iIt1] at hp6
            refine r_iconst hx hb dX6_rowsOf_39 ?_
            refine r_icmp_ne (tgt := 47) hx hb rz6 ⟨by omega, by omega⟩ dX6_rowsOf_40 (by decide) (fun c7 => ?_) (fun c7 => ?_)
            · refine r_iconst hx hb dX6_rowsOf_47 ?_
              refine r_iadd hx hb dX6_rowsOf_48 ?_
              refine lv_istore_n (lv' := [(3, .int (iI (x3 + 0))), (4, .int (iI x4)), (0, .ref (ad G 10 0)), (1, .int (iI co)), (2, .int (iI b))]) hx hb dX6_rowsOf_49 rfl hl (by decide) rfl (fun ls hl => ?_)
              refine r_iinc (lv' := [(4, .int (iI (x4 + 1))), (3, .int (iI (x3 + 0))), (0, .ref (ad G 10 0)), (1, .int (iI co)), (2, .int (iI b))]) hx hb dX6_rowsOf_50 hl (k := 1) rfl (by decide) rfl (fun ls hl => ?_)
              refine lv_goto (tgt := 5) hx hb dX6_rowsOf_53 (by decide) ?_
              exact ih5 (x3 + 0) (x4 + 1) _ _ ls (by omega) (by omega) (by omega) (by rcases i5_2 with ⟨hb, hx3⟩ | ⟨hb, hx3⟩; (refine Or.inl ⟨hb, ?_⟩; first | (rw [cntI_t (by omega) (by unfold qWh; omega)]; omega) | (rw [cntI_f (by omega) (by unfold qWh; omega)]; omega)); (refine Or.inr ⟨hb, ?_⟩; first | (rw [cntI_t (by omega) (by unfold qWS; omega)]; omega) | (rw [cntI_f (by omega) (by unfold qWS; omega)]; omega))) hW (lv_sub hl [0, 1, 2, 3, 4] rfl)
            · refine r_iconst hx hb dX6_rowsOf_43 ?_
              refine lv_goto (tgt := 48) hx hb dX6_rowsOf_44 (by decide) ?_
              refine r_iadd hx hb dX6_rowsOf_48 ?_
              refine lv_istore_n (lv' := [(3, .int (iI (x3 + 1))), (4, .int (iI x4)), (0, .ref (ad G 10 0)), (1, .int (iI co)), (2, .int (iI b))]) hx hb dX6_rowsOf_49 rfl hl (by decide) rfl (fun ls hl => ?_)
              refine r_iinc (lv' := [(4, .int (iI (x4 + 1))), (3, .int (iI (x3 + 1))), (0, .ref (ad G 10 0)), (1, .int (iI co)), (2, .int (iI b))]) hx hb dX6_rowsOf_50 hl (k := 1) rfl (by decide) rfl (fun ls hl => ?_)
              refine lv_goto (tgt := 5) hx hb dX6_rowsOf_53 (by decide) ?_
              exact ih5 (x3 + 1) (x4 + 1) _ _ ls (by omega) (by omega) (by omega) (by rcases i5_2 with ⟨hb, hx3⟩ | ⟨hb, hx3⟩; (refine Or.inl ⟨hb, ?_⟩; first | (rw [cntI_t (by omega) (by unfold qWh; omega)]; omega) | (rw [cntI_f (by omega) (by unfold qWh; omega)]; omega)); (refine Or.inr ⟨hb, ?_⟩; first | (rw [cntI_t (by omega) (by unfold qWS; omega)]; omega) | (rw [cntI_f (by omega) (by unfold qWS; omega)]; omega))) hW (lv_sub hl [0, 1, 2, 3, 4] rfl)
  exact hL5 61 0 0 _ _ ls (by omega) (by omega) (by omega) (by rw [cntI_0, cntI_0]; omega) hW (lv_sub hl [0, 1, 2, 3, 4] rfl)

/-- X6_disputesOf: its end -/
def po_X6_disputesOf (w : gW) (co : Int) : Int → gW → Prop := fun z w1 => (z = cntI (qDi ((w 10).1 1) co) (aI ((w 10).1 1) 7)) ∧ w = w1
theorem hdV_X6_disputesOf : yX6_disputesOf.cls = RX6 ∧ yX6_disputesOf.cls ≠ "java/lang/invoke/MethodHandle" ∧ yX6_disputesOf.cls ≠ "java/lang/invoke/VarHandle" ∧ (parseMethodDescriptor yX6_disputesOf.desc).map (fun d => d.parameters.length) = some 1 := by decide +kernel
set_option maxHeartbeats 4000000 in
set_option maxRecDepth 100000 in
theorem c_X6_disputesOf (l : Launch) (G : gG) (w : gW) (co : Int) (rco : inR co) (hop : 0 ≤ aI ((w 10).1 1) 7 ∧ aI ((w 10).1 1) 7 ≤ 120) : mI l G yX6_disputesOf (wU yX6_disputesOf cX6_disputesOf 4 (some .int)) (rmL 1 22) [.ref (ad G 10 0), .int (iI co)] w (po_X6_disputesOf w co) := by
  refine mI_of (by decide +kernel) (Nat.le_of_ble_eq_true rfl) (fun p e s m args below meth c ls C0 hW hl => ?_)
  have hl : lv_has ls 4 [(0, .ref (ad G 10 0)), (1, .int (iI co))] := hl
  have hx := C0.hx
  have hb := C0.hb
  refine r_iconst hx hb dX6_disputesOf_0 ?_
  refine lv_istore_n (lv' := [(2, .int (iI 0)), (0, .ref (ad G 10 0)), (1, .int (iI co))]) hx hb dX6_disputesOf_1 rfl hl (by decide) rfl (fun ls hl => ?_)
  refine r_iconst hx hb dX6_disputesOf_2 ?_
  refine lv_istore_n (lv' := [(3, .int (iI 0)), (2, .int (iI 0)), (0, .ref (ad G 10 0)), (1, .int (iI co))]) hx hb dX6_disputesOf_3 rfl hl (by decide) rfl (fun ls hl => ?_)
  have hL4 : ∀ (n : Nat) (x2 : Int) (x3 : Int) (H0 : Heap) (locs0 : List Loc) (ls : Array Slot) (hm : aI ((w 10).1 1) 7 - x3 < (n : Int)) (i4_0 : 0 ≤ x3) (i4_1 : x3 ≤ aI ((w 10).1 1) 7) (i4_2 : x2 = cntI (qDi ((w 10).1 1) co) x3) (hW : wo G w s H0 locs0) (hl : lv_has ls 4 [(3, .int (iI x3)), (2, .int (iI x2)), (0, .ref (ad G 10 0)), (1, .int (iI co))]), W p l e (rmL 1 22) s m args below meth c H0 locs0 0 0 (QI G (po_X6_disputesOf w co) below args s) (F0 m 4 ls []) := by
    intro n
    induction n with
    | zero =>
      intro x2 x3 H0 locs0 ls hm i4_0 i4_1 i4_2 hW hl
      exact absurd hm (by omega)
    | succ n ih4 =>
      intro x2 x3 H0 locs0 ls hm i4_0 i4_1 i4_2 hW hl
      have hcl := cntI_le (qDi ((w 10).1 1) co) i4_0
      refine lv_iload_n hx hb dX6_disputesOf_4 rfl (lv_at hl 0 rfl) ?_
      refine lv_aload_n hx hb dX6_disputesOf_5 rfl (lv_at hl 2 rfl) ?_
      refine r_gR C0 hW (show 10 < 11 ∧ 0 < bs 10 from ⟨by decide, by decide⟩) rfl rfl hiX6 (k := 1) (by decide) kf_X6_7 rfl rfl rfl dX6_disputesOf_6 ?_
      refine r_bipush hx hb dX6_disputesOf_9 (by decide) ?_
      refine r_ild C0 hW (show 10 < 11 ∧ 1 < bs 10 from ⟨by decide, by decide⟩) rfl (n := 941) (by omega) (by omega) (by omega) dX6_disputesOf_11 (fun z1 (hz1 : z1 = gA (w 10) 1 7) rz1 => ?_)
      have rz1a := rz1.1
      have rz1b := rz1.2
      try simp (decide := true) only [id, up_s, gA_s, gA_sn, gN_sF, gA_sS, gN_sS, sA_st, sF_sF, sF_sS, sS_sS, arr_s, arr_n, arr_S, gA_aI, if_true, if_false, true_and, and_true, false_and, and_false, recS_1, gN_rec, iIt0, iIt1] at hz1
      refine r_icmp_ge (tgt := 49) hx hb ⟨by omega, by omega⟩ rz1 dX6_disputesOf_12 (by decide) (fun c2 => ?_) (fun c2 => ?_)
      · refine lv_iload_n hx hb dX6_disputesOf_49 rfl (lv_at hl 1 rfl) ?_
        exact r_iret C0 hW ⟨by omega, by omega⟩ (⟨by rw [show aI ((w 10).1 1) 7 = x3 from by omega]; omega, rfl⟩) dX6_disputesOf_50
      · refine lv_iload_n hx hb dX6_disputesOf_15 rfl (lv_at hl 1 rfl) ?_
        refine lv_aload_n hx hb dX6_disputesOf_16 rfl (lv_at hl 2 rfl) ?_
        refine lv_iload_n hx hb dX6_disputesOf_17 rfl (lv_at hl 0 rfl) ?_
        refine r_iconst hx hb dX6_disputesOf_18 ?_
        refine k_Vi (j := 10) (k0 := 0) C0 hW (c_X6_ofDispute l G w x3 0 ⟨by omega, by omega⟩ ⟨by omega, by omega⟩ (by omega)) km_X6_113 ki_X6_ofDispute ke_X6_ofDispute kn_X6 kc_X6_ofDispute rfl hdV_X6_ofDispute ⟨by decide, by decide⟩ (show 10 < 11 ∧ 0 < bs 10 from ⟨by decide, by decide⟩) rfl rfl rfl hl.1 rfl (Nat.le_of_ble_eq_true rfl) dX6_disputesOf_19 (fun z3 w3 H1 locs1 rz3 hp3 hW => ?_)
        obtain ⟨hp3, hq3⟩ := hp3
        subst hq3
        have rz3a := rz3.1
        have rz3b := rz3.2
        try simp (decide := true) only [id, up_s, gA_s, gA_sn, gN_sF, gA_sS, gN_sS, sA_st, sF_sF, sF_sS, sS_sS, arr_s, arr_n, arr_S, gA_aI, if_true, if_false, true_and, and_true, false_and, and_false, recS_1, gN_rec, iIt0, iIt1] at hp3
        refine lv_iload_n hx hb dX6_disputesOf_22 rfl (lv_at hl 3 rfl) ?_
        refine r_icmp_eq (tgt := 36) hx hb rz3 rco dX6_disputesOf_23 (by decide) (fun c4 => ?_) (fun c4 => ?_)
        · refine r_iconst hx hb dX6_disputesOf_36 ?_
          refine lv_goto (tgt := 41) hx hb dX6_disputesOf_37 (by decide) ?_
          refine r_iadd hx hb dX6_disputesOf_41 ?_
          refine lv_istore_n (lv' := [(2, .int (iI (x2 + 1))), (3, .int (iI x3)), (0, .ref (ad G 10 0)), (1, .int (iI co))]) hx hb dX6_disputesOf_42 rfl hl (by decide) rfl (fun ls hl => ?_)
          refine r_iinc (lv' := [(3, .int (iI (x3 + 1))), (2, .int (iI (x2 + 1))), (0, .ref (ad G 10 0)), (1, .int (iI co))]) hx hb dX6_disputesOf_43 hl (k := 1) rfl (by decide) rfl (fun ls hl => ?_)
          refine lv_goto (tgt := 4) hx hb dX6_disputesOf_46 (by decide) ?_
          exact ih4 (x2 + 1) (x3 + 1) _ _ ls (by omega) (by omega) (by omega) (by first | (rw [cntI_t (by omega) (by unfold qDi; omega)]; omega) | (rw [cntI_f (by omega) (by unfold qDi; omega)]; omega)) hW (lv_sub hl [0, 1, 2, 3] rfl)
        · refine lv_aload_n hx hb dX6_disputesOf_26 rfl (lv_at hl 2 rfl) ?_
          refine lv_iload_n hx hb dX6_disputesOf_27 rfl (lv_at hl 0 rfl) ?_
          refine r_iconst hx hb dX6_disputesOf_28 ?_
          refine k_Vi (j := 10) (k0 := 0) C0 hW (c_X6_ofDispute l G w x3 1 ⟨by omega, by omega⟩ ⟨by omega, by omega⟩ (by omega)) km_X6_113 ki_X6_ofDispute ke_X6_ofDispute kn_X6 kc_X6_ofDispute rfl hdV_X6_ofDispute ⟨by decide, by decide⟩ (show 10 < 11 ∧ 0 < bs 10 from ⟨by decide, by decide⟩) rfl rfl rfl hl.1 rfl (Nat.le_of_ble_eq_true rfl) dX6_disputesOf_29 (fun z5 w5 H1 locs1 rz5 hp5 hW => ?_)
          obtain ⟨hp5, hq5⟩ := hp5
          subst hq5
          have rz5a := rz5.1
          have rz5b := rz5.2
          try simp (decide := true) only [id, up_s, gA_s, gA_sn, gN_sF, gA_sS, gN_sS, sA_st, sF_sF, sF_sS, sS_sS, arr_s, arr_n, arr_S, gA_aI, if_true, if_false, true_and, and_true, false_and, and_false, recS_1, gN_rec, iIt0, iIt1] at hp5
          refine lv_iload_n hx hb dX6_disputesOf_32 rfl (lv_at hl 3 rfl) ?_
          refine r_icmp_ne (tgt := 40) hx hb rz5 rco dX6_disputesOf_33 (by decide) (fun c6 => ?_) (fun c6 => ?_)
          · refine r_iconst hx hb dX6_disputesOf_40 ?_
            refine r_iadd hx hb dX6_disputesOf_41 ?_
            refine lv_istore_n (lv' := [(2, .int (iI (x2 + 0))), (3, .int (iI x3)), (0, .ref (ad G 10 0)), (1, .int (iI co))]) hx hb dX6_disputesOf_42 rfl hl (by decide) rfl (fun ls hl => ?_)
            refine r_iinc (lv' := [(3, .int (iI (x3 + 1))), (2, .int (iI (x2 + 0))), (0, .ref (ad G 10 0)), (1, .int (iI co))]) hx hb dX6_disputesOf_43 hl (k := 1) rfl (by decide) rfl (fun ls hl => ?_)
            refine lv_goto (tgt := 4) hx hb dX6_disputesOf_46 (by decide) ?_
            exact ih4 (x2 + 0) (x3 + 1) _ _ ls (by omega) (by omega) (by omega) (by first | (rw [cntI_t (by omega) (by unfold qDi; omega)]; omega) | (rw [cntI_f (by omega) (by unfold qDi; omega)]; omega)) hW (lv_sub hl [0, 1, 2, 3] rfl)
          · refine r_iconst hx hb dX6_disputesOf_36 ?_
            refine lv_goto (tgt := 41) hx hb dX6_disputesOf_37 (by decide) ?_
            refine r_iadd hx hb dX6_disputesOf_41 ?_
            refine lv_istore_n (lv' := [(2, .int (iI (x2 + 1))), (3, .int (iI x3)), (0, .ref (ad G 10 0)), (1, .int (iI co))]) hx hb dX6_disputesOf_42 rfl hl (by decide) rfl (fun ls hl => ?_)
            refine r_iinc (lv' := [(3, .int (iI (x3 + 1))), (2, .int (iI (x2 + 1))), (0, .ref (ad G 10 0)), (1, .int (iI co))]) hx hb dX6_disputesOf_43 hl (k := 1) rfl (by decide) rfl (fun ls hl => ?_)
            refine lv_goto (tgt := 4) hx hb dX6_disputesOf_46 (by decide) ?_
            exact ih4 (x2 + 1) (x3 + 1) _ _ ls (by omega) (by omega) (by omega) (by first | (rw [cntI_t (by omega) (by unfold qDi; omega)]; omega) | (rw [cntI_f (by omega) (by unfold qDi; omega)]; omega)) hW (lv_sub hl [0, 1, 2, 3] rfl)
  exact hL4 121 0 0 _ _ ls (by omega) (by omega) (by omega) (by rw [cntI_0]) hW (lv_sub hl [0, 1, 2, 3] rfl)

/-- X6_plotsOf: its end -/
def po_X6_plotsOf (w : gW) (co : Int) (k : Int) : Int → gW → Prop := fun z w1 => (z = cntI (qPl ((w 10).1 1) co k) ((20 : Int))) ∧ w = w1
theorem hdV_X6_plotsOf : yX6_plotsOf.cls = RX6 ∧ yX6_plotsOf.cls ≠ "java/lang/invoke/MethodHandle" ∧ yX6_plotsOf.cls ≠ "java/lang/invoke/VarHandle" ∧ (parseMethodDescriptor yX6_plotsOf.desc).map (fun d => d.parameters.length) = some 2 := by decide +kernel
set_option maxHeartbeats 4000000 in
set_option maxRecDepth 100000 in
theorem c_X6_plotsOf (l : Launch) (G : gG) (w : gW) (co : Int) (k : Int) (rco : inR co) (rk : inR k) (hk9 : 0 ≤ k ∧ k ≤ 2) : mI l G yX6_plotsOf (wU yX6_plotsOf cX6_plotsOf 5 (some .int)) (rmL 1 22) [.ref (ad G 10 0), .int (iI co), .int (iI k)] w (po_X6_plotsOf w co k) := by
  refine mI_of (by decide +kernel) (Nat.le_of_ble_eq_true rfl) (fun p e s m args below meth c ls C0 hW hl => ?_)
  have hl : lv_has ls 5 [(0, .ref (ad G 10 0)), (1, .int (iI co)), (2, .int (iI k))] := hl
  have hx := C0.hx
  have hb := C0.hb
  refine r_iconst hx hb dX6_plotsOf_0 ?_
  refine lv_istore_n (lv' := [(3, .int (iI 0)), (0, .ref (ad G 10 0)), (1, .int (iI co)), (2, .int (iI k))]) hx hb dX6_plotsOf_1 rfl hl (by decide) rfl (fun ls hl => ?_)
  refine r_iconst hx hb dX6_plotsOf_2 ?_
  refine lv_istore (lv' := [(4, .int (iI 0)), (3, .int (iI 0)), (0, .ref (ad G 10 0)), (1, .int (iI co)), (2, .int (iI k))]) hx hb dX6_plotsOf_3 hl (by decide) rfl (fun ls hl => ?_)
  have hL5 : ∀ (n : Nat) (x3 : Int) (x4 : Int) (H0 : Heap) (locs0 : List Loc) (ls : Array Slot) (hm : (20 : Int) - x4 < (n : Int)) (i5_0 : 0 ≤ x4) (i5_1 : x4 ≤ (20 : Int)) (i5_2 : x3 = cntI (qPl ((w 10).1 1) co k) x4) (hW : wo G w s H0 locs0) (hl : lv_has ls 5 [(4, .int (iI x4)), (3, .int (iI x3)), (0, .ref (ad G 10 0)), (1, .int (iI co)), (2, .int (iI k))]), W p l e (rmL 1 22) s m args below meth c H0 locs0 0 0 (QI G (po_X6_plotsOf w co k) below args s) (F0 m 5 ls []) := by
    intro n
    induction n with
    | zero =>
      intro x3 x4 H0 locs0 ls hm i5_0 i5_1 i5_2 hW hl
      exact absurd hm (by omega)
    | succ n ih5 =>
      intro x3 x4 H0 locs0 ls hm i5_0 i5_1 i5_2 hW hl
      have hcl := cntI_le (qPl ((w 10).1 1) co k) i5_0
      refine lv_iload hx hb dX6_plotsOf_5 (lv_at hl 0 rfl) ?_
      refine r_bipush hx hb dX6_plotsOf_7 (by decide) ?_
      refine r_icmp_ge (tgt := 37) hx hb ⟨by omega, by omega⟩ ⟨by omega, by omega⟩ dX6_plotsOf_9 (by decide) (fun c1 => ?_) (fun c1 => ?_)
      · refine lv_iload_n hx hb dX6_plotsOf_37 rfl (lv_at hl 1 rfl) ?_
        exact r_iret C0 hW ⟨by omega, by omega⟩ (⟨by rw [show (20 : Int) = x4 from by omega]; omega, rfl⟩) dX6_plotsOf_38
      · refine lv_iload_n hx hb dX6_plotsOf_12 rfl (lv_at hl 1 rfl) ?_
        refine lv_aload_n hx hb dX6_plotsOf_13 rfl (lv_at hl 2 rfl) ?_
        refine lv_iload hx hb dX6_plotsOf_14 (lv_at hl 0 rfl) ?_
        refine lv_iload_n hx hb dX6_plotsOf_16 rfl (lv_at hl 4 rfl) ?_
        refine k_Vi (j := 10) (k0 := 0) C0 hW (c_X6_ofPlot l G w x4 k ⟨by omega, by omega⟩ rk (by omega)) km_X6_77 ki_X6_ofPlot ke_X6_ofPlot kn_X6 kc_X6_ofPlot rfl hdV_X6_ofPlot ⟨by decide, by decide⟩ (show 10 < 11 ∧ 0 < bs 10 from ⟨by decide, by decide⟩) rfl rfl rfl hl.1 rfl (Nat.le_of_ble_eq_true rfl) dX6_plotsOf_17 (fun z2 w2 H1 locs1 rz2 hp2 hW => ?_)
        obtain ⟨hp2, hq2⟩ := hp2
        subst hq2
        have rz2a := rz2.1
        have rz2b := rz2.2
        try simp (decide := true) only [id, up_s, gA_s, gA_sn, gN_sF, gA_sS, gN_sS, sA_st, sF_sF, sF_sS, sS_sS, arr_s, arr_n, arr_S, gA_aI, if_true, if_false, true_and, and_true, false_and, and_false, recS_1, gN_rec, iIt0, iIt1] at hp2
        refine lv_iload_n hx hb dX6_plotsOf_20 rfl (lv_at hl 3 rfl) ?_
        refine r_icmp_ne (tgt := 28) hx hb rz2 rco dX6_plotsOf_21 (by decide) (fun c3 => ?_) (fun c3 => ?_)
        · refine r_iconst hx hb dX6_plotsOf_28 ?_
          refine r_iadd hx hb dX6_plotsOf_29 ?_
          refine lv_istore_n (lv' := [(3, .int (iI (x3 + 0))), (4, .int (iI x4)), (0, .ref (ad G 10 0)), (1, .int (iI co)), (2, .int (iI k))]) hx hb dX6_plotsOf_30 rfl hl (by decide) rfl (fun ls hl => ?_)
          refine r_iinc (lv' := [(4, .int (iI (x4 + 1))), (3, .int (iI (x3 + 0))), (0, .ref (ad G 10 0)), (1, .int (iI co)), (2, .int (iI k))]) hx hb dX6_plotsOf_31 hl (k := 1) rfl (by decide) rfl (fun ls hl => ?_)
          refine lv_goto (tgt := 5) hx hb dX6_plotsOf_34 (by decide) ?_
          exact ih5 (x3 + 0) (x4 + 1) _ _ ls (by omega) (by omega) (by omega) (by first | (rw [cntI_t (by omega) (by unfold qPl; omega)]; omega) | (rw [cntI_f (by omega) (by unfold qPl; omega)]; omega)) hW (lv_sub hl [0, 1, 2, 3, 4] rfl)
        · refine r_iconst hx hb dX6_plotsOf_24 ?_
          refine lv_goto (tgt := 29) hx hb dX6_plotsOf_25 (by decide) ?_
          refine r_iadd hx hb dX6_plotsOf_29 ?_
          refine lv_istore_n (lv' := [(3, .int (iI (x3 + 1))), (4, .int (iI x4)), (0, .ref (ad G 10 0)), (1, .int (iI co)), (2, .int (iI k))]) hx hb dX6_plotsOf_30 rfl hl (by decide) rfl (fun ls hl => ?_)
          refine r_iinc (lv' := [(4, .int (iI (x4 + 1))), (3, .int (iI (x3 + 1))), (0, .ref (ad G 10 0)), (1, .int (iI co)), (2, .int (iI k))]) hx hb dX6_plotsOf_31 hl (k := 1) rfl (by decide) rfl (fun ls hl => ?_)
          refine lv_goto (tgt := 5) hx hb dX6_plotsOf_34 (by decide) ?_
          exact ih5 (x3 + 1) (x4 + 1) _ _ ls (by omega) (by omega) (by omega) (by first | (rw [cntI_t (by omega) (by unfold qPl; omega)]; omega) | (rw [cntI_f (by omega) (by unfold qPl; omega)]; omega)) hW (lv_sub hl [0, 1, 2, 3, 4] rfl)
  exact hL5 21 0 0 _ _ ls (by omega) (by omega) (by omega) (by rw [cntI_0]) hW (lv_sub hl [0, 1, 2, 3, 4] rfl)

/-- X6_ahead: its end -/
def po_X6_ahead (w : gW) (pa : Int) : Int → gW → Prop := fun z w1 => (z = cntI (qBf ((w 10).1 1) pa) (aI ((w 10).1 1) 4)) ∧ w = w1
theorem hdV_X6_ahead : yX6_ahead.cls = RX6 ∧ yX6_ahead.cls ≠ "java/lang/invoke/MethodHandle" ∧ yX6_ahead.cls ≠ "java/lang/invoke/VarHandle" ∧ (parseMethodDescriptor yX6_ahead.desc).map (fun d => d.parameters.length) = some 1 := by decide +kernel
set_option maxHeartbeats 4000000 in
set_option maxRecDepth 100000 in
theorem c_X6_ahead (l : Launch) (G : gG) (w : gW) (pa : Int) (rpa : inR pa) (hL9 : 0 ≤ aI ((w 10).1 1) 4 ∧ aI ((w 10).1 1) 4 ≤ 60) (hp9 : 0 ≤ pa ∧ pa < 60) : mI l G yX6_ahead (wU yX6_ahead cX6_ahead 5 (some .int)) (rmL 1 22) [.ref (ad G 10 0), .int (iI pa)] w (po_X6_ahead w pa) := by
  refine mI_of (by decide +kernel) (Nat.le_of_ble_eq_true rfl) (fun p e s m args below meth c ls C0 hW hl => ?_)
  have hl : lv_has ls 5 [(0, .ref (ad G 10 0)), (1, .int (iI pa))] := hl
  have hx := C0.hx
  have hb := C0.hb
  refine r_iconst hx hb dX6_ahead_0 ?_
  refine lv_istore_n (lv' := [(2, .int (iI 0)), (0, .ref (ad G 10 0)), (1, .int (iI pa))]) hx hb dX6_ahead_1 rfl hl (by decide) rfl (fun ls hl => ?_)
  refine r_iconst hx hb dX6_ahead_2 ?_
  refine lv_istore_n (lv' := [(3, .int (iI 0)), (2, .int (iI 0)), (0, .ref (ad G 10 0)), (1, .int (iI pa))]) hx hb dX6_ahead_3 rfl hl (by decide) rfl (fun ls hl => ?_)
  have hL4 : ∀ (n : Nat) (x2 : Int) (x3 : Int) (H0 : Heap) (locs0 : List Loc) (ls : Array Slot) (hm : aI ((w 10).1 1) 4 - x3 < (n : Int)) (i4_0 : 0 ≤ x3) (i4_1 : x3 ≤ aI ((w 10).1 1) 4) (i4_2 : x2 = cntI (qBf ((w 10).1 1) pa) x3) (hW : wo G w s H0 locs0) (hl : lv_has ls 5 [(3, .int (iI x3)), (2, .int (iI x2)), (0, .ref (ad G 10 0)), (1, .int (iI pa))]), W p l e (rmL 1 22) s m args below meth c H0 locs0 0 0 (QI G (po_X6_ahead w pa) below args s) (F0 m 4 ls []) := by
    intro n
    induction n with
    | zero =>
      intro x2 x3 H0 locs0 ls hm i4_0 i4_1 i4_2 hW hl
      exact absurd hm (by omega)
    | succ n ih4 =>
      intro x2 x3 H0 locs0 ls hm i4_0 i4_1 i4_2 hW hl
      have hcl := cntI_le (qBf ((w 10).1 1) pa) i4_0
      refine lv_iload_n hx hb dX6_ahead_4 rfl (lv_at hl 0 rfl) ?_
      refine lv_aload_n hx hb dX6_ahead_5 rfl (lv_at hl 2 rfl) ?_
      refine r_gR C0 hW (show 10 < 11 ∧ 0 < bs 10 from ⟨by decide, by decide⟩) rfl rfl hiX6 (k := 1) (by decide) kf_X6_7 rfl rfl rfl dX6_ahead_6 ?_
      refine r_iconst hx hb dX6_ahead_9 ?_
      refine r_ild C0 hW (show 10 < 11 ∧ 1 < bs 10 from ⟨by decide, by decide⟩) rfl (n := 941) (by omega) (by omega) (by omega) dX6_ahead_10 (fun z1 (hz1 : z1 = gA (w 10) 1 4) rz1 => ?_)
      have rz1a := rz1.1
      have rz1b := rz1.2
      try simp (decide := true) only [id, up_s, gA_s, gA_sn, gN_sF, gA_sS, gN_sS, sA_st, sF_sF, sF_sS, sS_sS, arr_s, arr_n, arr_S, gA_aI, if_true, if_false, true_and, and_true, false_and, and_false, recS_1, gN_rec, iIt0, iIt1] at hz1
      refine r_icmp_ge (tgt := 90) hx hb ⟨by omega, by omega⟩ rz1 dX6_ahead_11 (by decide) (fun c2 => ?_) (fun c2 => ?_)
      · refine lv_iload_n hx hb dX6_ahead_90 rfl (lv_at hl 1 rfl) ?_
        exact r_iret C0 hW ⟨by omega, by omega⟩ (⟨by rw [show aI ((w 10).1 1) 4 = x3 from by omega]; omega, rfl⟩) dX6_ahead_91
      · refine lv_aload_n hx hb dX6_ahead_14 rfl (lv_at hl 2 rfl) ?_
        refine lv_iload_n hx hb dX6_ahead_15 rfl (lv_at hl 0 rfl) ?_
        refine r_iconst hx hb dX6_ahead_16 ?_
        refine k_Vi (j := 10) (k0 := 0) C0 hW (c_X6_ofRow l G w x3 1 ⟨by omega, by omega⟩ ⟨by omega, by omega⟩ (by omega)) km_X6_36 ki_X6_ofRow ke_X6_ofRow kn_X6 kc_X6_ofRow rfl hdV_X6_ofRow ⟨by decide, by decide⟩ (show 10 < 11 ∧ 0 < bs 10 from ⟨by decide, by decide⟩) rfl rfl rfl hl.1 rfl (Nat.le_of_ble_eq_true rfl) dX6_ahead_17 (fun z3 w3 H1 locs1 rz3 hp3 hW => ?_)
        obtain ⟨hp3, hq3⟩ := hp3
        subst hq3
        have rz3a := rz3.1
        have rz3b := rz3.2
        try simp (decide := true) only [id, up_s, gA_s, gA_sn, gN_sF, gA_sS, gN_sS, sA_st, sF_sF, sF_sS, sS_sS, arr_s, arr_n, arr_S, gA_aI, if_true, if_false, true_and, and_true, false_and, and_false, recS_1, gN_rec, iIt0, iIt1] at hp3
        refine lv_aload_n hx hb dX6_ahead_20 rfl (lv_at hl 2 rfl) ?_
        refine lv_iload_n hx hb dX6_ahead_21 rfl (lv_at hl 3 rfl) ?_
        refine r_iconst hx hb dX6_ahead_22 ?_
        refine k_Vi (j := 10) (k0 := 0) C0 hW (c_X6_ofRow l G w pa 1 rpa ⟨by omega, by omega⟩ (by omega)) km_X6_36 ki_X6_ofRow ke_X6_ofRow kn_X6 kc_X6_ofRow rfl hdV_X6_ofRow ⟨by decide, by decide⟩ (show 10 < 11 ∧ 0 < bs 10 from ⟨by decide, by decide⟩) rfl rfl rfl hl.1 rfl (Nat.le_of_ble_eq_true rfl) dX6_ahead_23 (fun z4 w4 H1 locs1 rz4 hp4 hW => ?_)
        obtain ⟨hp4, hq4⟩ := hp4
        subst hq4
        have rz4a := rz4.1
        have rz4b := rz4.2
        try simp (decide := true) only [id, up_s, gA_s, gA_sn, gN_sF, gA_sS, gN_sS, sA_st, sF_sF, sF_sS, sS_sS, arr_s, arr_n, arr_S, gA_aI, if_true, if_false, true_and, and_true, false_and, and_false, recS_1, gN_rec, iIt0, iIt1] at hp4
        refine r_icmp_ne (tgt := 33) hx hb rz3 rz4 dX6_ahead_26 (by decide) (fun c5 => ?_) (fun c5 => ?_)
        · refine r_iconst hx hb dX6_ahead_33 ?_
          refine lv_istore (lv' := [(4, .int (iI 0)), (3, .int (iI x3)), (2, .int (iI x2)), (0, .ref (ad G 10 0)), (1, .int (iI pa))]) hx hb dX6_ahead_34 hl (by decide) rfl (fun ls hl => ?_)
          refine lv_iload_n hx hb dX6_ahead_36 rfl (lv_at hl 2 rfl) ?_
          refine lv_iload hx hb dX6_ahead_37 (lv_at hl 0 rfl) ?_
          refine r_if_eq (tgt := 81) hx hb ⟨by omega, by omega⟩ dX6_ahead_39 (by decide) (fun _ => ?_) (fun q => absurd q (by decide))
          refine r_iconst hx hb dX6_ahead_81 ?_
          refine r_iadd hx hb dX6_ahead_82 ?_
          refine lv_istore_n (lv' := [(2, .int (iI (x2 + 0))), (4, .int (iI 0)), (3, .int (iI x3)), (0, .ref (ad G 10 0)), (1, .int (iI pa))]) hx hb dX6_ahead_83 rfl hl (by decide) rfl (fun ls hl => ?_)
          refine r_iinc (lv' := [(3, .int (iI (x3 + 1))), (2, .int (iI (x2 + 0))), (4, .int (iI 0)), (0, .ref (ad G 10 0)), (1, .int (iI pa))]) hx hb dX6_ahead_84 hl (k := 2) rfl (by decide) rfl (fun ls hl => ?_)
          refine lv_goto (tgt := 4) hx hb dX6_ahead_87 (by decide) ?_
          exact ih4 (x2 + 0) (x3 + 1) _ _ ls (by omega) (by omega) (by omega) (by first | (rw [cntI_t (by omega) (by unfold qBf; omega)]; omega) | (rw [cntI_f (by omega) (by unfold qBf; omega)]; omega)) hW (lv_sub hl [0, 1, 3, 4] rfl)
        · refine r_iconst hx hb dX6_ahead_29 ?_
          refine lv_goto (tgt := 34) hx hb dX6_ahead_30 (by decide) ?_
          refine lv_istore (lv' := [(4, .int (iI 1)), (3, .int (iI x3)), (2, .int (iI x2)), (0, .ref (ad G 10 0)), (1, .int (iI pa))]) hx hb dX6_ahead_34 hl (by decide) rfl (fun ls hl => ?_)
          refine lv_iload_n hx hb dX6_ahead_36 rfl (lv_at hl 2 rfl) ?_
          refine lv_iload hx hb dX6_ahead_37 (lv_at hl 0 rfl) ?_
          refine r_if_eq (tgt := 81) hx hb ⟨by omega, by omega⟩ dX6_ahead_39 (by decide) (fun q => absurd q (by decide)) (fun _ => ?_)
          refine lv_aload_n hx hb dX6_ahead_42 rfl (lv_at hl 3 rfl) ?_
          refine lv_iload_n hx hb dX6_ahead_43 rfl (lv_at hl 1 rfl) ?_
          refine r_iconst hx hb dX6_ahead_44 ?_
          refine k_Vi (j := 10) (k0 := 0) C0 hW (c_X6_ofRow l G w x3 3 ⟨by omega, by omega⟩ ⟨by omega, by omega⟩ (by omega)) km_X6_36 ki_X6_ofRow ke_X6_ofRow kn_X6 kc_X6_ofRow rfl hdV_X6_ofRow ⟨by decide, by decide⟩ (show 10 < 11 ∧ 0 < bs 10 from ⟨by decide, by decide⟩) rfl rfl rfl hl.1 rfl (Nat.le_of_ble_eq_true rfl) dX6_ahead_45 (fun z6 w6 H1 locs1 rz6 hp6 hW => ?_)
          obtain ⟨hp6, hq6⟩ := hp6
          subst hq6
          have rz6a := rz6.1
          have rz6b := rz6.2
          try simp (decide := true) only [id, up_s, gA_s, gA_sn, gN_sF, gA_sS, gN_sS, sA_st, sF_sF, sF_sS, sS_sS, arr_s, arr_n, arr_S, gA_aI, if_true, if_false, true_and, and_true, false_and, and_false, recS_1, gN_rec, iIt0, iIt1] at hp6
          refine lv_aload_n hx hb dX6_ahead_48 rfl (lv_at hl 3 rfl) ?_
          refine lv_iload_n hx hb dX6_ahead_49 rfl (lv_at hl 4 rfl) ?_
          refine r_iconst hx hb dX6_ahead_50 ?_
          refine k_Vi (j := 10) (k0 := 0) C0 hW (c_X6_ofRow l G w pa 3 rpa ⟨by omega, by omega⟩ (by omega)) km_X6_36 ki_X6_ofRow ke_X6_ofRow kn_X6 kc_X6_ofRow rfl hdV_X6_ofRow ⟨by decide, by decide⟩ (show 10 < 11 ∧ 0 < bs 10 from ⟨by decide, by decide⟩) rfl rfl rfl hl.1 rfl (Nat.le_of_ble_eq_true rfl) dX6_ahead_51 (fun z7 w7 H1 locs1 rz7 hp7 hW => ?_)
          obtain ⟨hp7, hq7⟩ := hp7
          subst hq7
          have rz7a := rz7.1
          have rz7b := rz7.2
          try simp (decide := true) only [id, up_s, gA_s, gA_sn, gN_sF, gA_sS, gN_sS, sA_st, sF_sF, sF_sS, sS_sS, arr_s, arr_n, arr_S, gA_aI, if_true, if_false, true_and, and_true, false_and, and_false, recS_1, gN_rec, iIt0, iIt1] at hp7
          refine r_icmp_lt (tgt := 77) hx hb rz6 rz7 dX6_ahead_54 (by decide) (fun c8 => ?_) (fun c8 => ?_)
          · refine r_iconst hx hb dX6_ahead_77 ?_
            refine lv_goto (tgt := 82) hx hb dX6_ahead_78 (by decide) ?_
            refine r_iadd hx hb dX6_ahead_82 ?_
            refine lv_istore_n (lv' := [(2, .int (iI (x2 + 1))), (4, .int (iI 1)), (3, .int (iI x3)), (0, .ref (ad G 10 0)), (1, .int (iI pa))]) hx hb dX6_ahead_83 rfl hl (by decide) rfl (fun ls hl => ?_)
            refine r_iinc (lv' := [(3, .int (iI (x3 + 1))), (2, .int (iI (x2 + 1))), (4, .int (iI 1)), (0, .ref (ad G 10 0)), (1, .int (iI pa))]) hx hb dX6_ahead_84 hl (k := 2) rfl (by decide) rfl (fun ls hl => ?_)
            refine lv_goto (tgt := 4) hx hb dX6_ahead_87 (by decide) ?_
            exact ih4 (x2 + 1) (x3 + 1) _ _ ls (by omega) (by omega) (by omega) (by first | (rw [cntI_t (by omega) (by unfold qBf; omega)]; omega) | (rw [cntI_f (by omega) (by unfold qBf; omega)]; omega)) hW (lv_sub hl [0, 1, 3, 4] rfl)
          · refine lv_aload_n hx hb dX6_ahead_57 rfl (lv_at hl 3 rfl) ?_
            refine lv_iload_n hx hb dX6_ahead_58 rfl (lv_at hl 1 rfl) ?_
            refine r_iconst hx hb dX6_ahead_59 ?_
            refine k_Vi (j := 10) (k0 := 0) C0 hW (c_X6_ofRow l G w x3 3 ⟨by omega, by omega⟩ ⟨by omega, by omega⟩ (by omega)) km_X6_36 ki_X6_ofRow ke_X6_ofRow kn_X6 kc_X6_ofRow rfl hdV_X6_ofRow ⟨by decide, by decide⟩ (show 10 < 11 ∧ 0 < bs 10 from ⟨by decide, by decide⟩) rfl rfl rfl hl.1 rfl (Nat.le_of_ble_eq_true rfl) dX6_ahead_60 (fun z9 w9 H1 locs1 rz9 hp9 hW => ?_)
            obtain ⟨hp9, hq9⟩ := hp9
            subst hq9
            have rz9a := rz9.1
            have rz9b := rz9.2
            try simp (decide := true) only [id, up_s, gA_s, gA_sn, gN_sF, gA_sS, gN_sS, sA_st, sF_sF, sF_sS, sS_sS, arr_s, arr_n, arr_S, gA_aI, if_true, if_false, true_and, and_true, false_and, and_false, recS_1, gN_rec, iIt0, iIt1] at hp9
            refine lv_aload_n hx hb dX6_ahead_63 rfl (lv_at hl 3 rfl) ?_
            refine lv_iload_n hx hb dX6_ahead_64 rfl (lv_at hl 4 rfl) ?_
            refine r_iconst hx hb dX6_ahead_65 ?_
            refine k_Vi (j := 10) (k0 := 0) C0 hW (c_X6_ofRow l G w pa 3 rpa ⟨by omega, by omega⟩ (by omega)) km_X6_36 ki_X6_ofRow ke_X6_ofRow kn_X6 kc_X6_ofRow rfl hdV_X6_ofRow ⟨by decide, by decide⟩ (show 10 < 11 ∧ 0 < bs 10 from ⟨by decide, by decide⟩) rfl rfl rfl hl.1 rfl (Nat.le_of_ble_eq_true rfl) dX6_ahead_66 (fun z10 w10 H1 locs1 rz10 hp10 hW => ?_)
            obtain ⟨hp10, hq10⟩ := hp10
            subst hq10
            have rz10a := rz10.1
            have rz10b := rz10.2
            try simp (decide := true) only [id, up_s, gA_s, gA_sn, gN_sF, gA_sS, gN_sS, sA_st, sF_sF, sF_sS, sS_sS, arr_s, arr_n, arr_S, gA_aI, if_true, if_false, true_and, and_true, false_and, and_false, recS_1, gN_rec, iIt0, iIt1] at hp10
            refine r_icmp_ne (tgt := 81) hx hb rz9 rz10 dX6_ahead_69 (by decide) (fun c11 => ?_) (fun c11 => ?_)
            · refine r_iconst hx hb dX6_ahead_81 ?_
              refine r_iadd hx hb dX6_ahead_82 ?_
              refine lv_istore_n (lv' := [(2, .int (iI (x2 + 0))), (4, .int (iI 1)), (3, .int (iI x3)), (0, .ref (ad G 10 0)), (1, .int (iI pa))]) hx hb dX6_ahead_83 rfl hl (by decide) rfl (fun ls hl => ?_)
              refine r_iinc (lv' := [(3, .int (iI (x3 + 1))), (2, .int (iI (x2 + 0))), (4, .int (iI 1)), (0, .ref (ad G 10 0)), (1, .int (iI pa))]) hx hb dX6_ahead_84 hl (k := 2) rfl (by decide) rfl (fun ls hl => ?_)
              refine lv_goto (tgt := 4) hx hb dX6_ahead_87 (by decide) ?_
              exact ih4 (x2 + 0) (x3 + 1) _ _ ls (by omega) (by omega) (by omega) (by first | (rw [cntI_t (by omega) (by unfold qBf; omega)]; omega) | (rw [cntI_f (by omega) (by unfold qBf; omega)]; omega)) hW (lv_sub hl [0, 1, 3, 4] rfl)
            · refine lv_iload_n hx hb dX6_ahead_72 rfl (lv_at hl 1 rfl) ?_
              refine lv_iload_n hx hb dX6_ahead_73 rfl (lv_at hl 4 rfl) ?_
              refine r_icmp_ge (tgt := 81) hx hb ⟨by omega, by omega⟩ rpa dX6_ahead_74 (by decide) (fun c12 => ?_) (fun c12 => ?_)
              · refine r_iconst hx hb dX6_ahead_81 ?_
                refine r_iadd hx hb dX6_ahead_82 ?_
                refine lv_istore_n (lv' := [(2, .int (iI (x2 + 0))), (4, .int (iI 1)), (3, .int (iI x3)), (0, .ref (ad G 10 0)), (1, .int (iI pa))]) hx hb dX6_ahead_83 rfl hl (by decide) rfl (fun ls hl => ?_)
                refine r_iinc (lv' := [(3, .int (iI (x3 + 1))), (2, .int (iI (x2 + 0))), (4, .int (iI 1)), (0, .ref (ad G 10 0)), (1, .int (iI pa))]) hx hb dX6_ahead_84 hl (k := 2) rfl (by decide) rfl (fun ls hl => ?_)
                refine lv_goto (tgt := 4) hx hb dX6_ahead_87 (by decide) ?_
                exact ih4 (x2 + 0) (x3 + 1) _ _ ls (by omega) (by omega) (by omega) (by first | (rw [cntI_t (by omega) (by unfold qBf; omega)]; omega) | (rw [cntI_f (by omega) (by unfold qBf; omega)]; omega)) hW (lv_sub hl [0, 1, 3, 4] rfl)
              · refine r_iconst hx hb dX6_ahead_77 ?_
                refine lv_goto (tgt := 82) hx hb dX6_ahead_78 (by decide) ?_
                refine r_iadd hx hb dX6_ahead_82 ?_
                refine lv_istore_n (lv' := [(2, .int (iI (x2 + 1))), (4, .int (iI 1)), (3, .int (iI x3)), (0, .ref (ad G 10 0)), (1, .int (iI pa))]) hx hb dX6_ahead_83 rfl hl (by decide) rfl (fun ls hl => ?_)
                refine r_iinc (lv' := [(3, .int (iI (x3 + 1))), (2, .int (iI (x2 + 1))), (4, .int (iI 1)), (0, .ref (ad G 10 0)), (1, .int (iI pa))]) hx hb dX6_ahead_84 hl (k := 2) rfl (by decide) rfl (fun ls hl => ?_)
                refine lv_goto (tgt := 4) hx hb dX6_ahead_87 (by decide) ?_
                exact ih4 (x2 + 1) (x3 + 1) _ _ ls (by omega) (by omega) (by omega) (by first | (rw [cntI_t (by omega) (by unfold qBf; omega)]; omega) | (rw [cntI_f (by omega) (by unfold qBf; omega)]; omega)) hW (lv_sub hl [0, 1, 3, 4] rfl)
  exact hL4 61 0 0 _ _ ls (by omega) (by omega) (by omega) (by rw [cntI_0]) hW (lv_sub hl [0, 1, 2, 3] rfl)

/-- X6_rowsThat: its end -/
def po_X6_rowsThat (w : gW) (q : Int) : Int → gW → Prop := fun z w1 => ((q = 4 ∧ z = cntI (qSt ((w 10).1 1)) (aI ((w 10).1 1) 4)) ∨ (q = 5 ∧ z = cntI (qDr ((w 10).1 1)) (aI ((w 10).1 1) 4))) ∧ w = w1
theorem hdV_X6_rowsThat : yX6_rowsThat.cls = RX6 ∧ yX6_rowsThat.cls ≠ "java/lang/invoke/MethodHandle" ∧ yX6_rowsThat.cls ≠ "java/lang/invoke/VarHandle" ∧ (parseMethodDescriptor yX6_rowsThat.desc).map (fun d => d.parameters.length) = some 1 := by decide +kernel
set_option maxHeartbeats 4000000 in
set_option maxRecDepth 100000 in
theorem c_X6_rowsThat (l : Launch) (G : gG) (w : gW) (q : Int) (rq : inR q) (hL9 : 0 ≤ aI ((w 10).1 1) 4 ∧ aI ((w 10).1 1) 4 ≤ 60) (hq9 : q = 4 ∨ q = 5) (hsk : ∀ q : Int, 0 ≤ q → q < 60 → 0 ≤ aI ((w 10).1 1) (101 + 6 * q + 5) ∧ aI ((w 10).1 1) (101 + 6 * q + 5) ≤ 1) : mI l G yX6_rowsThat (wU yX6_rowsThat cX6_rowsThat 4 (some .int)) (rmL 1 22) [.ref (ad G 10 0), .int (iI q)] w (po_X6_rowsThat w q) := by
  refine mI_of (by decide +kernel) (Nat.le_of_ble_eq_true rfl) (fun p e s m args below meth c ls C0 hW hl => ?_)
  have hl : lv_has ls 4 [(0, .ref (ad G 10 0)), (1, .int (iI q))] := hl
  have hx := C0.hx
  have hb := C0.hb
  refine r_iconst hx hb dX6_rowsThat_0 ?_
  refine lv_istore_n (lv' := [(2, .int (iI 0)), (0, .ref (ad G 10 0)), (1, .int (iI q))]) hx hb dX6_rowsThat_1 rfl hl (by decide) rfl (fun ls hl => ?_)
  refine r_iconst hx hb dX6_rowsThat_2 ?_
  refine lv_istore_n (lv' := [(3, .int (iI 0)), (2, .int (iI 0)), (0, .ref (ad G 10 0)), (1, .int (iI q))]) hx hb dX6_rowsThat_3 rfl hl (by decide) rfl (fun ls hl => ?_)
  have hL4 : ∀ (n : Nat) (x2 : Int) (x3 : Int) (H0 : Heap) (locs0 : List Loc) (ls : Array Slot) (hm : aI ((w 10).1 1) 4 - x3 < (n : Int)) (i4_0 : 0 ≤ x3) (i4_1 : x3 ≤ aI ((w 10).1 1) 4) (i4_2 : (q = 4 ∧ x2 = cntI (qSt ((w 10).1 1)) x3) ∨ (q = 5 ∧ x2 = cntI (qDr ((w 10).1 1)) x3)) (hW : wo G w s H0 locs0) (hl : lv_has ls 4 [(3, .int (iI x3)), (2, .int (iI x2)), (0, .ref (ad G 10 0)), (1, .int (iI q))]), W p l e (rmL 1 22) s m args below meth c H0 locs0 0 0 (QI G (po_X6_rowsThat w q) below args s) (F0 m 4 ls []) := by
    intro n
    induction n with
    | zero =>
      intro x2 x3 H0 locs0 ls hm i4_0 i4_1 i4_2 hW hl
      exact absurd hm (by omega)
    | succ n ih4 =>
      intro x2 x3 H0 locs0 ls hm i4_0 i4_1 i4_2 hW hl
      have hcl := cntI_le (qSt ((w 10).1 1)) i4_0
      have hcl2 := cntI_le (qDr ((w 10).1 1)) i4_0
      refine lv_iload_n hx hb dX6_rowsThat_4 rfl (lv_at hl 0 rfl) ?_
      refine lv_aload_n hx hb dX6_rowsThat_5 rfl (lv_at hl 2 rfl) ?_
      refine r_gR C0 hW (show 10 < 11 ∧ 0 < bs 10 from ⟨by decide, by decide⟩) rfl rfl hiX6 (k := 1) (by decide) kf_X6_7 rfl rfl rfl dX6_rowsThat_6 ?_
      refine r_iconst hx hb dX6_rowsThat_9 ?_
      refine r_ild C0 hW (show 10 < 11 ∧ 1 < bs 10 from ⟨by decide, by decide⟩) rfl (n := 941) (by omega) (by omega) (by omega) dX6_rowsThat_10 (fun z1 (hz1 : z1 = gA (w 10) 1 4) rz1 => ?_)
      have rz1a := rz1.1
      have rz1b := rz1.2
      try simp (decide := true) only [id, up_s, gA_s, gA_sn, gN_sF, gA_sS, gN_sS, sA_st, sF_sF, sF_sS, sS_sS, arr_s, arr_n, arr_S, gA_aI, if_true, if_false, true_and, and_true, false_and, and_false, recS_1, gN_rec, iIt0, iIt1] at hz1
      refine r_icmp_ge (tgt := 53) hx hb ⟨by omega, by omega⟩ rz1 dX6_rowsThat_11 (by decide) (fun c2 => ?_) (fun c2 => ?_)
      · refine lv_iload_n hx hb dX6_rowsThat_53 rfl (lv_at hl 1 rfl) ?_
        exact r_iret C0 hW ⟨by omega, by omega⟩ (⟨by rw [show aI ((w 10).1 1) 4 = x3 from by omega]; omega, rfl⟩) dX6_rowsThat_54
      · have hsx := hsk x3 i4_0 (by omega)
        refine lv_iload_n hx hb dX6_rowsThat_14 rfl (lv_at hl 1 rfl) ?_
        refine lv_iload_n hx hb dX6_rowsThat_15 rfl (lv_at hl 3 rfl) ?_
        refine r_iconst hx hb dX6_rowsThat_16 ?_
        refine r_icmp_ne (tgt := 29) hx hb rq ⟨by omega, by omega⟩ dX6_rowsThat_17 (by decide) (fun c3 => ?_) (fun c3 => ?_)
        · refine lv_aload_n hx hb dX6_rowsThat_29 rfl (lv_at hl 2 rfl) ?_
          refine lv_iload_n hx hb dX6_rowsThat_30 rfl (lv_at hl 0 rfl) ?_
          refine r_iconst hx hb dX6_rowsThat_31 ?_
          refine k_Vi (j := 10) (k0 := 0) C0 hW (c_X6_ofRow l G w x3 3 ⟨by omega, by omega⟩ ⟨by omega, by omega⟩ (by omega)) km_X6_36 ki_X6_ofRow ke_X6_ofRow kn_X6 kc_X6_ofRow rfl hdV_X6_ofRow ⟨by decide, by decide⟩ (show 10 < 11 ∧ 0 < bs 10 from ⟨by decide, by decide⟩) rfl rfl rfl hl.1 rfl (Nat.le_of_ble_eq_true rfl) dX6_rowsThat_32 (fun z4 w4 H1 locs1 rz4 hp4 hW => ?_)
          obtain ⟨hp4, hq4⟩ := hp4
          subst hq4
          have rz4a := rz4.1
          have rz4b := rz4.2
          try simp (decide := true) only [id, up_s, gA_s, gA_sn, gN_sF, gA_sS, gN_sS, sA_st, sF_sF, sF_sS, sS_sS, arr_s, arr_n, arr_S, gA_aI, if_true, if_false, true_and, and_true, false_and, and_false, recS_1, gN_rec, iIt0, iIt1] at hp4
          refine r_bipush hx hb dX6_rowsThat_35 (by decide) ?_
          refine r_icmp_gt (tgt := 44) hx hb rz4 ⟨by omega, by omega⟩ dX6_rowsThat_37 (by decide) (fun c5 => ?_) (fun c5 => ?_)
          · refine r_iconst hx hb dX6_rowsThat_44 ?_
            refine r_iadd hx hb dX6_rowsThat_45 ?_
            refine lv_istore_n (lv' := [(2, .int (iI (x2 + 0))), (3, .int (iI x3)), (0, .ref (ad G 10 0)), (1, .int (iI q))]) hx hb dX6_rowsThat_46 rfl hl (by decide) rfl (fun ls hl => ?_)
            refine r_iinc (lv' := [(3, .int (iI (x3 + 1))), (2, .int (iI (x2 + 0))), (0, .ref (ad G 10 0)), (1, .int (iI q))]) hx hb dX6_rowsThat_47 hl (k := 1) rfl (by decide) rfl (fun ls hl => ?_)
            refine lv_goto (tgt := 4) hx hb dX6_rowsThat_50 (by decide) ?_
            exact ih4 (x2 + 0) (x3 + 1) _ _ ls (by omega) (by omega) (by omega) (by rcases i4_2 with ⟨hb, hx3⟩ | ⟨hb, hx3⟩; (refine Or.inl ⟨hb, ?_⟩; by_cases hs1 : qSt ((w 10).1 1) x3; (rw [cntI_t (by omega) hs1]; unfold qSt at hs1; omega); (rw [cntI_f (by omega) hs1]; unfold qSt at hs1; omega)); (refine Or.inr ⟨hb, ?_⟩; first | (rw [cntI_t (by omega) (by unfold qDr; omega)]; omega) | (rw [cntI_f (by omega) (by unfold qDr; omega)]; omega))) hW (lv_sub hl [0, 1, 2, 3] rfl)
          · refine r_iconst hx hb dX6_rowsThat_40 ?_
            refine lv_goto (tgt := 45) hx hb dX6_rowsThat_41 (by decide) ?_
            refine r_iadd hx hb dX6_rowsThat_45 ?_
            refine lv_istore_n (lv' := [(2, .int (iI (x2 + 1))), (3, .int (iI x3)), (0, .ref (ad G 10 0)), (1, .int (iI q))]) hx hb dX6_rowsThat_46 rfl hl (by decide) rfl (fun ls hl => ?_)
            refine r_iinc (lv' := [(3, .int (iI (x3 + 1))), (2, .int (iI (x2 + 1))), (0, .ref (ad G 10 0)), (1, .int (iI q))]) hx hb dX6_rowsThat_47 hl (k := 1) rfl (by decide) rfl (fun ls hl => ?_)
            refine lv_goto (tgt := 4) hx hb dX6_rowsThat_50 (by decide) ?_
            exact ih4 (x2 + 1) (x3 + 1) _ _ ls (by omega) (by omega) (by omega) (by rcases i4_2 with ⟨hb, hx3⟩ | ⟨hb, hx3⟩; (refine Or.inl ⟨hb, ?_⟩; by_cases hs1 : qSt ((w 10).1 1) x3; (rw [cntI_t (by omega) hs1]; unfold qSt at hs1; omega); (rw [cntI_f (by omega) hs1]; unfold qSt at hs1; omega)); (refine Or.inr ⟨hb, ?_⟩; first | (rw [cntI_t (by omega) (by unfold qDr; omega)]; omega) | (rw [cntI_f (by omega) (by unfold qDr; omega)]; omega))) hW (lv_sub hl [0, 1, 2, 3] rfl)
        · refine lv_aload_n hx hb dX6_rowsThat_20 rfl (lv_at hl 2 rfl) ?_
          refine lv_iload_n hx hb dX6_rowsThat_21 rfl (lv_at hl 0 rfl) ?_
          refine r_iconst hx hb dX6_rowsThat_22 ?_
          refine k_Vi (j := 10) (k0 := 0) C0 hW (c_X6_ofRow l G w x3 5 ⟨by omega, by omega⟩ ⟨by omega, by omega⟩ (by omega)) km_X6_36 ki_X6_ofRow ke_X6_ofRow kn_X6 kc_X6_ofRow rfl hdV_X6_ofRow ⟨by decide, by decide⟩ (show 10 < 11 ∧ 0 < bs 10 from ⟨by decide, by decide⟩) rfl rfl rfl hl.1 rfl (Nat.le_of_ble_eq_true rfl) dX6_rowsThat_23 (fun z6 w6 H1 locs1 rz6 hp6 hW => ?_)
          obtain ⟨hp6, hq6⟩ := hp6
          subst hq6
          have rz6a := rz6.1
          have rz6b := rz6.2
          try simp (decide := true) only [id, up_s, gA_s, gA_sn, gN_sF, gA_sS, gN_sS, sA_st, sF_sF, sF_sS, sS_sS, arr_s, arr_n, arr_S, gA_aI, if_true, if_false, true_and, and_true, false_and, and_false, recS_1, gN_rec, iIt0, iIt1] at hp6
          refine lv_goto (tgt := 45) hx hb dX6_rowsThat_26 (by decide) ?_
          refine r_iadd hx hb dX6_rowsThat_45 ?_
          refine lv_istore_n (lv' := [(2, .int (iI (x2 + z6))), (3, .int (iI x3)), (0, .ref (ad G 10 0)), (1, .int (iI q))]) hx hb dX6_rowsThat_46 rfl hl (by decide) rfl (fun ls hl => ?_)
          refine r_iinc (lv' := [(3, .int (iI (x3 + 1))), (2, .int (iI (x2 + z6))), (0, .ref (ad G 10 0)), (1, .int (iI q))]) hx hb dX6_rowsThat_47 hl (k := 1) rfl (by decide) rfl (fun ls hl => ?_)
          refine lv_goto (tgt := 4) hx hb dX6_rowsThat_50 (by decide) ?_
          exact ih4 (x2 + z6) (x3 + 1) _ _ ls (by omega) (by omega) (by omega) (by rcases i4_2 with ⟨hb, hx3⟩ | ⟨hb, hx3⟩; (refine Or.inl ⟨hb, ?_⟩; by_cases hs1 : qSt ((w 10).1 1) x3; (rw [cntI_t (by omega) hs1]; unfold qSt at hs1; omega); (rw [cntI_f (by omega) hs1]; unfold qSt at hs1; omega)); (refine Or.inr ⟨hb, ?_⟩; first | (rw [cntI_t (by omega) (by unfold qDr; omega)]; omega) | (rw [cntI_f (by omega) (by unfold qDr; omega)]; omega))) hW (lv_sub hl [0, 1, 2, 3] rfl)
  exact hL4 61 0 0 _ _ ls (by omega) (by omega) (by omega) (by rw [cntI_0, cntI_0]; omega) hW (lv_sub hl [0, 1, 2, 3] rfl)

/-- X6_allPeats: its end -/
def po_X6_allPeats (w : gW) : Int → gW → Prop := fun z w1 => (iI z = iI (sumX (fun c => aI ((w 10).1 1) (11 + 3 * c + 2)) 10)) ∧ w = w1
theorem hdV_X6_allPeats : yX6_allPeats.cls = RX6 ∧ yX6_allPeats.cls ≠ "java/lang/invoke/MethodHandle" ∧ yX6_allPeats.cls ≠ "java/lang/invoke/VarHandle" ∧ (parseMethodDescriptor yX6_allPeats.desc).map (fun d => d.parameters.length) = some 0 := by decide +kernel
set_option maxHeartbeats 4000000 in
set_option maxRecDepth 100000 in
theorem c_X6_allPeats (l : Launch) (G : gG) (w : gW) : mI l G yX6_allPeats (wU yX6_allPeats cX6_allPeats 3 (some .int)) (rmL 1 22) [.ref (ad G 10 0)] w (po_X6_allPeats w) := by
  refine mI_of (by decide +kernel) (Nat.le_of_ble_eq_true rfl) (fun p e s m args below meth c ls C0 hW hl => ?_)
  have hl : lv_has ls 3 [(0, .ref (ad G 10 0))] := hl
  have hx := C0.hx
  have hb := C0.hb
  refine r_iconst hx hb dX6_allPeats_0 ?_
  refine lv_istore_n (lv' := [(1, .int (iI 0)), (0, .ref (ad G 10 0))]) hx hb dX6_allPeats_1 rfl hl (by decide) rfl (fun ls hl => ?_)
  refine r_iconst hx hb dX6_allPeats_2 ?_
  refine lv_istore_n (lv' := [(2, .int (iI 0)), (1, .int (iI 0)), (0, .ref (ad G 10 0))]) hx hb dX6_allPeats_3 rfl hl (by decide) rfl (fun ls hl => ?_)
  have hL4 : ∀ (n : Nat) (x1 : Int) (x2 : Int) (H0 : Heap) (locs0 : List Loc) (ls : Array Slot) (hm : 10 - x2 < (n : Int)) (i4_0 : 0 ≤ x2) (i4_1 : x2 ≤ 10) (i4_2 : iI x1 = iI (sumX (fun c => aI ((w 10).1 1) (11 + 3 * c + 2)) x2)) (hW : wo G w s H0 locs0) (hl : lv_has ls 3 [(2, .int (iI x2)), (1, .int (iI x1)), (0, .ref (ad G 10 0))]), W p l e (rmL 1 22) s m args below meth c H0 locs0 0 0 (QI G (po_X6_allPeats w) below args s) (F0 m 4 ls []) := by
    intro n
    induction n with
    | zero =>
      intro x1 x2 H0 locs0 ls hm i4_0 i4_1 i4_2 hW hl
      exact absurd hm (by omega)
    | succ n ih4 =>
      intro x1 x2 H0 locs0 ls hm i4_0 i4_1 i4_2 hW hl
      refine lv_iload_n hx hb dX6_allPeats_4 rfl (lv_at hl 0 rfl) ?_
      refine r_bipush hx hb dX6_allPeats_5 (by decide) ?_
      refine r_icmp_ge (tgt := 25) hx hb ⟨by omega, by omega⟩ ⟨by omega, by omega⟩ dX6_allPeats_7 (by decide) (fun c1 => ?_) (fun c1 => ?_)
      · refine lv_iload_n hx hb dX6_allPeats_25 rfl (lv_at hl 1 rfl) ?_
        rw [← iI_o (iI x1)]
        exact r_iret C0 hW (inR_o _) (⟨by rw [iI_o, show (10 : Int) = x2 from by omega, ← i4_2], rfl⟩) dX6_allPeats_26
      · refine lv_iload_n hx hb dX6_allPeats_10 rfl (lv_at hl 1 rfl) ?_
        refine lv_aload_n hx hb dX6_allPeats_11 rfl (lv_at hl 2 rfl) ?_
        refine lv_iload_n hx hb dX6_allPeats_12 rfl (lv_at hl 0 rfl) ?_
        refine r_iconst hx hb dX6_allPeats_13 ?_
        refine k_Vi (j := 10) (k0 := 0) C0 hW (c_X6_ofCommoner l G w x2 2 ⟨by omega, by omega⟩ ⟨by omega, by omega⟩ (by omega)) km_X6_83 ki_X6_ofCommoner ke_X6_ofCommoner kn_X6 kc_X6_ofCommoner rfl hdV_X6_ofCommoner ⟨by decide, by decide⟩ (show 10 < 11 ∧ 0 < bs 10 from ⟨by decide, by decide⟩) rfl rfl rfl hl.1 rfl (Nat.le_of_ble_eq_true rfl) dX6_allPeats_14 (fun z2 w2 H1 locs1 rz2 hp2 hW => ?_)
        obtain ⟨hp2, hq2⟩ := hp2
        subst hq2
        have rz2a := rz2.1
        have rz2b := rz2.2
        try simp (decide := true) only [id, up_s, gA_s, gA_sn, gN_sF, gA_sS, gN_sS, sA_st, sF_sF, sF_sS, sS_sS, arr_s, arr_n, arr_S, gA_aI, if_true, if_false, true_and, and_true, false_and, and_false, recS_1, gN_rec, iIt0, iIt1] at hp2
        refine r_iadd hx hb dX6_allPeats_17 ?_
        refine lv_istore_n (lv' := [(1, .int (iI (x1 + z2))), (2, .int (iI x2)), (0, .ref (ad G 10 0))]) hx hb dX6_allPeats_18 rfl hl (by decide) rfl (fun ls hl => ?_)
        refine r_iinc (lv' := [(2, .int (iI (x2 + 1))), (1, .int (iI (x1 + z2))), (0, .ref (ad G 10 0))]) hx hb dX6_allPeats_19 hl (k := 1) rfl (by decide) rfl (fun ls hl => ?_)
        refine lv_goto (tgt := 4) hx hb dX6_allPeats_22 (by decide) ?_
        exact ih4 (x1 + z2) (x2 + 1) _ _ ls (by omega) (by omega) (by omega) (by rw [← iI_add, i4_2, iI_add, sumX_s _ (by omega)]; congr 2) hW (lv_sub hl [0, 1, 2] rfl)
  exact hL4 21 0 0 _ _ ls (by omega) (by omega) (by omega) (by rw [sumX_0]) hW (lv_sub hl [0, 1, 2] rfl)

/-- X6_allLayers: its end -/
def po_X6_allLayers (w : gW) : Int → gW → Prop := fun z w1 => (iI z = iI (sumX (fun c => aI ((w 10).1 1) (41 + 3 * c + 0)) 20)) ∧ w = w1
theorem hdV_X6_allLayers : yX6_allLayers.cls = RX6 ∧ yX6_allLayers.cls ≠ "java/lang/invoke/MethodHandle" ∧ yX6_allLayers.cls ≠ "java/lang/invoke/VarHandle" ∧ (parseMethodDescriptor yX6_allLayers.desc).map (fun d => d.parameters.length) = some 0 := by decide +kernel
set_option maxHeartbeats 4000000 in
set_option maxRecDepth 100000 in
theorem c_X6_allLayers (l : Launch) (G : gG) (w : gW) : mI l G yX6_allLayers (wU yX6_allLayers cX6_allLayers 3 (some .int)) (rmL 1 22) [.ref (ad G 10 0)] w (po_X6_allLayers w) := by
  refine mI_of (by decide +kernel) (Nat.le_of_ble_eq_true rfl) (fun p e s m args below meth c ls C0 hW hl => ?_)
  have hl : lv_has ls 3 [(0, .ref (ad G 10 0))] := hl
  have hx := C0.hx
  have hb := C0.hb
  refine r_iconst hx hb dX6_allLayers_0 ?_
  refine lv_istore_n (lv' := [(1, .int (iI 0)), (0, .ref (ad G 10 0))]) hx hb dX6_allLayers_1 rfl hl (by decide) rfl (fun ls hl => ?_)
  refine r_iconst hx hb dX6_allLayers_2 ?_
  refine lv_istore_n (lv' := [(2, .int (iI 0)), (1, .int (iI 0)), (0, .ref (ad G 10 0))]) hx hb dX6_allLayers_3 rfl hl (by decide) rfl (fun ls hl => ?_)
  have hL4 : ∀ (n : Nat) (x1 : Int) (x2 : Int) (H0 : Heap) (locs0 : List Loc) (ls : Array Slot) (hm : 20 - x2 < (n : Int)) (i4_0 : 0 ≤ x2) (i4_1 : x2 ≤ 20) (i4_2 : iI x1 = iI (sumX (fun c => aI ((w 10).1 1) (41 + 3 * c + 0)) x2)) (hW : wo G w s H0 locs0) (hl : lv_has ls 3 [(2, .int (iI x2)), (1, .int (iI x1)), (0, .ref (ad G 10 0))]), W p l e (rmL 1 22) s m args below meth c H0 locs0 0 0 (QI G (po_X6_allLayers w) below args s) (F0 m 4 ls []) := by
    intro n
    induction n with
    | zero =>
      intro x1 x2 H0 locs0 ls hm i4_0 i4_1 i4_2 hW hl
      exact absurd hm (by omega)
    | succ n ih4 =>
      intro x1 x2 H0 locs0 ls hm i4_0 i4_1 i4_2 hW hl
      refine lv_iload_n hx hb dX6_allLayers_4 rfl (lv_at hl 0 rfl) ?_
      refine r_bipush hx hb dX6_allLayers_5 (by decide) ?_
      refine r_icmp_ge (tgt := 25) hx hb ⟨by omega, by omega⟩ ⟨by omega, by omega⟩ dX6_allLayers_7 (by decide) (fun c1 => ?_) (fun c1 => ?_)
      · refine lv_iload_n hx hb dX6_allLayers_25 rfl (lv_at hl 1 rfl) ?_
        rw [← iI_o (iI x1)]
        exact r_iret C0 hW (inR_o _) (⟨by rw [iI_o, show (20 : Int) = x2 from by omega, ← i4_2], rfl⟩) dX6_allLayers_26
      · refine lv_iload_n hx hb dX6_allLayers_10 rfl (lv_at hl 1 rfl) ?_
        refine lv_aload_n hx hb dX6_allLayers_11 rfl (lv_at hl 2 rfl) ?_
        refine lv_iload_n hx hb dX6_allLayers_12 rfl (lv_at hl 0 rfl) ?_
        refine r_iconst hx hb dX6_allLayers_13 ?_
        refine k_Vi (j := 10) (k0 := 0) C0 hW (c_X6_ofPlot l G w x2 0 ⟨by omega, by omega⟩ ⟨by omega, by omega⟩ (by omega)) km_X6_77 ki_X6_ofPlot ke_X6_ofPlot kn_X6 kc_X6_ofPlot rfl hdV_X6_ofPlot ⟨by decide, by decide⟩ (show 10 < 11 ∧ 0 < bs 10 from ⟨by decide, by decide⟩) rfl rfl rfl hl.1 rfl (Nat.le_of_ble_eq_true rfl) dX6_allLayers_14 (fun z2 w2 H1 locs1 rz2 hp2 hW => ?_)
        obtain ⟨hp2, hq2⟩ := hp2
        subst hq2
        have rz2a := rz2.1
        have rz2b := rz2.2
        try simp (decide := true) only [id, up_s, gA_s, gA_sn, gN_sF, gA_sS, gN_sS, sA_st, sF_sF, sF_sS, sS_sS, arr_s, arr_n, arr_S, gA_aI, if_true, if_false, true_and, and_true, false_and, and_false, recS_1, gN_rec, iIt0, iIt1] at hp2
        refine r_iadd hx hb dX6_allLayers_17 ?_
        refine lv_istore_n (lv' := [(1, .int (iI (x1 + z2))), (2, .int (iI x2)), (0, .ref (ad G 10 0))]) hx hb dX6_allLayers_18 rfl hl (by decide) rfl (fun ls hl => ?_)
        refine r_iinc (lv' := [(2, .int (iI (x2 + 1))), (1, .int (iI (x1 + z2))), (0, .ref (ad G 10 0))]) hx hb dX6_allLayers_19 hl (k := 1) rfl (by decide) rfl (fun ls hl => ?_)
        refine lv_goto (tgt := 4) hx hb dX6_allLayers_22 (by decide) ?_
        exact ih4 (x1 + z2) (x2 + 1) _ _ ls (by omega) (by omega) (by omega) (by rw [← iI_add, i4_2, iI_add, sumX_s _ (by omega)]; congr 2) hW (lv_sub hl [0, 1, 2] rfl)
  exact hL4 21 0 0 _ _ ls (by omega) (by omega) (by omega) (by rw [sumX_0]) hW (lv_sub hl [0, 1, 2] rfl)
