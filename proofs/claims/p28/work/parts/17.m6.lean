/-- X3_serve: its end -/
def po_X3_serve (w : gW) (j : Nat) (co : Int) : gW → Prop := fun w1 => w1 = up w j (srvM (w j) co)
theorem hdV_X3_serve : yX3_serve.cls = RX3 ∧ yX3_serve.cls ≠ "java/lang/invoke/MethodHandle" ∧ yX3_serve.cls ≠ "java/lang/invoke/VarHandle" ∧ (parseMethodDescriptor yX3_serve.desc).map (fun d => d.parameters.length) = some 1 := by decide +kernel
set_option maxHeartbeats 4000000 in
set_option maxRecDepth 100000 in
theorem c_X3_serve (l : Launch) (G : gG) (w : gW) {j : Nat} (hj : ms j) (hwf : wf (w j)) (co : Int) (rco : inR co) (hco : 0 ≤ co ∧ co ≤ 9) : mV l G yX3_serve (wU yX3_serve cX3_serve 4 none) (rmL 4 76) [.ref (ad G j 0), .int (iI co)] w (po_X3_serve w j co) := by
  refine mV_of (by decide +kernel) (Nat.le_of_ble_eq_true rfl) (fun p e s m args below meth c ls C0 hW hl => ?_)
  have hl : lv_has ls 4 [(0, .ref (ad G j 0)), (1, .int (iI co))] := hl
  have hx := C0.hx
  have hb := C0.hb
  obtain ⟨⟨hs1, hs2⟩, ⟨hd1, hd2, hd3⟩, -, -, -, -, ⟨hr1, hr2⟩, ⟨hc1, hc2⟩, hds⟩ := id hwf
  refine r_iconst hx hb dX3_serve_0 ?_
  refine lv_istore_n (lv' := [(2, .int (iI 0)), (0, .ref (ad G j 0)), (1, .int (iI co))]) hx hb dX3_serve_1 rfl hl (by decide) rfl (fun ls hl => ?_)
  have hL2 : ∀ (n : Nat) (x2 : Int) (wv : gW) (hwv : wv = up w j (tk (w j) co x2.toNat)) (H0 : Heap) (locs0 : List Loc) (ls : Array Slot) (hm : gN (w j) 0 8 - x2 < (n : Int)) (i2_0 : 0 ≤ x2) (i2_1 : x2 ≤ gN (w j) 0 8) (hW : wo G wv s H0 locs0) (hl : lv_has ls 4 [(2, .int (iI x2)), (0, .ref (ad G j 0)), (1, .int (iI co))]), W p l e (rmL 4 76) s m args below meth c H0 locs0 0 0 (QV G (po_X3_serve w j co) below args s) (F0 m 2 ls []) := by
    intro n
    induction n with
    | zero =>
      intro x2 wv hwv H0 locs0 ls hm i2_0 i2_1 hW hl
      exact absurd hm (by omega)
    | succ n ih2 =>
      intro x2 wv hwv H0 locs0 ls hm i2_0 i2_1 hW hl
      have hwv2 : wf (wv j) := by rw [hwv, up_s]; exact wf_tk co _ hwf
      have hv1 := hwv2.1.2
      refine lv_iload_n hx hb dX3_serve_2 rfl (lv_at hl 0 rfl) ?_
      refine lv_aload_n hx hb dX3_serve_3 rfl (lv_at hl 1 rfl) ?_
      refine r_gI C0 hW (ms_lt hj 0 (by decide)) (ceX_m hj G 0 _ _) rfl hiX3 (k := 8) (by decide) kf_X3_44 rfl rfl rfl dX3_serve_4 (fun z1 (hz1 : z1 = gN (wv j) 0 8) rz1 => ?_)
      have rz1a := rz1.1
      have rz1b := rz1.2
      try simp (decide := true) only [hwv, up_s, gA_sF, gN_sF, gA_sA, gN_sA, gA_sS, gN_sS, if_true, if_false, true_and, and_true, false_and, and_false, gN_tk] at hz1
      refine r_icmp_ge (tgt := 81) hx hb ⟨by omega, by omega⟩ rz1 dX3_serve_7 (by decide) (fun c2 => ?_) (fun c2 => ?_)
      · exact r_vret C0 hW (by unfold po_X3_serve srvM; rw [hwv, show gN (w j) 0 8 = x2 from by omega]) dX3_serve_81
      · refine lv_aload_n hx hb dX3_serve_10 rfl (lv_at hl 1 rfl) ?_
        refine r_gR C0 hW (ms_lt hj 0 (by decide)) (ceX_m hj G 0 _ _) rfl hiX3 (k := 6) (by decide) kf_X3_33 rfl rfl rfl dX3_serve_11 ?_
        refine lv_iload_n hx hb dX3_serve_14 rfl (lv_at hl 2 rfl) ?_
        refine k_Vi (j := j) (k0 := 7) C0 hW (c_X4_driestStackedOf l G wv hj (by exact hwv2) co rco) km_X3_111 ki_X4_driestStackedOf ke_X4_driestStackedOf kn_X4 kc_X4_driestStackedOf rfl hdV_X4_driestStackedOf ⟨by decide, by decide⟩ (ms_lt hj 7 (by decide)) (ceX_m hj G 7 _ _) rfl rfl hl.1 rfl (Nat.le_of_ble_eq_true rfl) dX3_serve_15 (fun z3 w3 H1 locs1 rz3 hp3 hW => ?_)
        obtain ⟨hp3, hq3⟩ := hp3
        subst hq3
        have rz3a := rz3.1
        have rz3b := rz3.2
        have pQl : z3 = -5 ∨ lyi (wv j) z3 := by rw [hp3]; exact pQ_lyi (hwv2.1.1)
        have e15 : z3 = bstI (tk (w j) co x2.toNat) co (gN (tk (w j) co x2.toNat) 7 6) := by rw [hp3, hwv, up_s]
        refine lv_istore_n (lv' := [(3, .int (iI z3)), (2, .int (iI x2)), (0, .ref (ad G j 0)), (1, .int (iI co))]) hx hb dX3_serve_18 rfl hl (by decide) rfl (fun ls hl => ?_)
        refine lv_iload_n hx hb dX3_serve_19 rfl (lv_at hl 3 rfl) ?_
        refine k_Ni (own := "") C0 hW (As := [.int (iI co)]) (c_X5_isCommoner l G wv co rco) C0.nst.2.2.2.2.2.2.2.1 ks_X5_isCommoner kn_X5 kc_X5_isCommoner hdS_X5_isCommoner ⟨by decide, by decide⟩ rfl hl.1 rfl (Nat.le_of_ble_eq_true rfl) dX3_serve_20 (fun z4 w4 H1 locs1 rz4 hp4 hW => ?_)
        obtain ⟨hp4, hq4⟩ := hp4
        subst hq4
        have rz4a := rz4.1
        have rz4b := rz4.2
        rcases hp4 with ⟨e4, hp4⟩ | ⟨e4, hp4⟩
        · subst e4
          refine r_if_eq (tgt := 37) hx hb ⟨by omega, by omega⟩ dX3_serve_23 (by decide) (fun q => absurd q (by decide)) (fun _ => ?_)
          refine lv_aload_n hx hb dX3_serve_26 rfl (lv_at hl 2 rfl) ?_
          refine r_gR C0 hW (ms_lt hj 0 (by decide)) (ceX_m hj G 0 _ _) rfl hiX3 (k := 6) (by decide) kf_X3_33 rfl rfl rfl dX3_serve_27 ?_
          refine lv_iload_n hx hb dX3_serve_30 rfl (lv_at hl 0 rfl) ?_
          refine k_Vi (j := j) (k0 := 7) C0 hW (c_X4_isLying l G wv hj (by exact hwv2) z3 rz3) km_X3_114 ki_X4_isLying ke_X4_isLying kn_X4 kc_X4_isLying rfl hdV_X4_isLying ⟨by decide, by decide⟩ (ms_lt hj 7 (by decide)) (ceX_m hj G 7 _ _) rfl rfl hl.1 rfl (Nat.le_of_ble_eq_true rfl) dX3_serve_31 (fun z5 w5 H1 locs1 rz5 hp5 hW => ?_)
          obtain ⟨hp5, hq5⟩ := hp5
          subst hq5
          have rz5a := rz5.1
          have rz5b := rz5.2
          rcases hp5 with ⟨e5, hp5⟩ | ⟨e5, hp5⟩
          · subst e5
            obtain ⟨hp51, hp52, hp53⟩ := id hp5
            refine r_if_ne (tgt := 38) hx hb ⟨by omega, by omega⟩ dX3_serve_34 (by decide) (fun _ => ?_) (fun q => absurd q (by decide))
            refine lv_aload_n hx hb dX3_serve_38 rfl (lv_at hl 2 rfl) ?_
            refine r_gR C0 hW (ms_lt hj 0 (by decide)) (ceX_m hj G 0 _ _) rfl hiX3 (k := 5) (by decide) kf_X3_27 rfl rfl rfl dX3_serve_39 ?_
            refine lv_iload_n hx hb dX3_serve_42 rfl (lv_at hl 3 rfl) ?_
            refine lv_dup2_11 hx hb dX3_serve_43 rfl rfl ?_
            refine r_ild C0 hW (ms_lt hj 6 (by decide)) (ceX_m hj G 6 _ _) (n := 10) (by omega) (by omega) (by omega) dX3_serve_44 (fun z6 (hz6 : z6 = gA (wv j) 6 co) rz6 => ?_)
            have rz6a := rz6.1
            have rz6b := rz6.2
            try simp (decide := true) only [hwv, up_s, gA_sF, gN_sF, gA_sA, gN_sA, gA_sS, gN_sS, if_true, if_false, true_and, and_true, false_and, and_false, gN_tk] at hz6
            refine lv_aload_n hx hb dX3_serve_45 rfl (lv_at hl 2 rfl) ?_
            refine r_gR C0 hW (ms_lt hj 0 (by decide)) (ceX_m hj G 0 _ _) rfl hiX3 (k := 6) (by decide) kf_X3_33 rfl rfl rfl dX3_serve_46 ?_
            refine lv_iload_n hx hb dX3_serve_49 rfl (lv_at hl 0 rfl) ?_
            refine k_Vi (j := j) (k0 := 7) C0 hW (c_X4_peatsAtHearth l G wv hj (by exact hwv2) z3 rz3) km_X3_117 ki_X4_peatsAtHearth ke_X4_peatsAtHearth kn_X4 kc_X4_peatsAtHearth rfl hdV_X4_peatsAtHearth ⟨by decide, by decide⟩ (ms_lt hj 7 (by decide)) (ceX_m hj G 7 _ _) rfl rfl hl.1 rfl (Nat.le_of_ble_eq_true rfl) dX3_serve_50 (fun z7 w7 H1 locs1 rz7 hp7 hW => ?_)
            obtain ⟨hp7, hq7⟩ := hp7
            subst hq7
            have rz7a := rz7.1
            have rz7b := rz7.2
            have e50 : z7 = max 0 (40 - gA (tk (w j) co x2.toNat) 10 z3) := by
              rcases hp7 with ⟨-, q⟩ | ⟨q, -⟩
              · rw [q, hwv, up_s]
              · exact absurd hp5 q
            refine r_iadd hx hb dX3_serve_53 ?_
            refine r_ist C0 hW (ms_lt hj 6 (by decide)) (fun A => (ceX_m hj G 6 _ _)) (n := 10) (v := iI (z6 + z7)) (by omega) (by omega) (by decide) dX3_serve_54 (fun H1 locs1 hW => ?_)
            obtain ⟨w8, hw8⟩ : ∃ wq9 : gW, wq9 = up wv j (sA (wv j) 6 co (iI (z6 + z7))) := ⟨_, rfl⟩
            rw [← hw8] at hW
            refine lv_aload_n hx hb dX3_serve_55 rfl (lv_at hl 2 rfl) ?_
            refine r_gR C0 hW (ms_lt hj 0 (by decide)) (ceX_m hj G 0 _ _) rfl hiX3 (k := 6) (by decide) kf_X3_33 rfl rfl rfl dX3_serve_56 ?_
            refine r_gR C0 hW (ms_lt hj 7 (by decide)) (ceX_m hj G 7 _ _) rfl hiX4 (k := 5) (by decide) kf_X3_120 rfl rfl rfl dX3_serve_59 ?_
            refine lv_iload_n hx hb dX3_serve_62 rfl (lv_at hl 0 rfl) ?_
            refine r_iconst hx hb dX3_serve_63 ?_
            refine r_zst C0 hW (ms_lt hj 13 (by decide)) (fun A => (ceX_m hj G 13 _ _)) (n := 120) (v := iI 0) (iI_narz (by first | exact Or.inl rfl | exact Or.inr rfl | omega)) (by omega) (by omega) (by decide) dX3_serve_64 (fun H1 locs1 hW => ?_)
            obtain ⟨w9, hw9⟩ : ∃ wq9 : gW, wq9 = up w8 j (sA (w8 j) 13 z3 (iI 0)) := ⟨_, rfl⟩
            rw [← hw9] at hW
            refine lv_aload_n hx hb dX3_serve_65 rfl (lv_at hl 2 rfl) ?_
            refine lv_dup hx hb dX3_serve_66 rfl ?_
            refine r_gI C0 hW (ms_lt hj 0 (by decide)) (ceX_m hj G 0 _ _) rfl hiX3 (k := 13) (by decide) kf_X3_71 rfl rfl rfl dX3_serve_67 (fun z10 (hz10 : z10 = gN (w9 j) 0 13) rz10 => ?_)
            have rz10a := rz10.1
            have rz10b := rz10.2
            try simp (decide := true) only [hw9, hw8, hwv, up_s, gA_sF, gN_sF, gA_sA, gN_sA, gA_sS, gN_sS, if_true, if_false, true_and, and_true, false_and, and_false, gN_tk] at hz10
            refine r_iconst hx hb dX3_serve_70 ?_
            refine r_iadd hx hb dX3_serve_71 ?_
            refine r_pI C0 hW (ms_lt hj 0 (by decide)) (ceX_m hj G 0 _ _) rfl hiX3 tyX3 tyX3_ok nmX3 (k := 13) (v := iI (z10 + 1)) (by decide) kf_X3_71 rfl rfl rfl (tyX3_ok 13 (by decide)) rfl rfl (by simp) (ceX_m hj G 0 _ _) dX3_serve_72 (fun H1 locs1 hW => ?_)
            obtain ⟨w11, hw11⟩ : ∃ wq9 : gW, wq9 = up w9 j (sS (w9 j) 0 13 (iI (z10 + 1))) := ⟨_, rfl⟩
            rw [← hw11] at hW
            refine r_iinc (lv' := [(2, .int (iI (x2 + 1))), (3, .int (iI z3)), (0, .ref (ad G j 0)), (1, .int (iI co))]) hx hb dX3_serve_75 hl (k := 1) rfl (by decide) rfl (fun ls hl => ?_)
            refine lv_goto (tgt := 2) hx hb dX3_serve_78 (by decide) ?_
            exact ih2 (x2 + 1) _ (by simp only [hw11, hw9, hw8, hwv, up_up, up_s]; rw [toNat_s (by omega), tk_s, if_neg (by rw [← e15]; omega), ← e15]; unfold tak1; simp only [hz1, hz6, hz10, e50]) _ _ ls (by omega) (by omega) (by omega) hW (lv_sub hl [0, 2, 3] rfl)
          · subst e5
            refine r_if_ne (tgt := 38) hx hb ⟨by omega, by omega⟩ dX3_serve_34 (by decide) (fun q => absurd q (by decide)) (fun _ => ?_)
            exact r_vret C0 hW (by unfold po_X3_serve; rw [hwv, srv_stop (by omega) (by omega) (by rw [← e15]; exact pQl.resolve_right hp5)]) dX3_serve_37
        · subst e4
          refine r_if_eq (tgt := 37) hx hb ⟨by omega, by omega⟩ dX3_serve_23 (by decide) (fun _ => ?_) (fun q => absurd q (by decide))
          exact r_vret C0 hW (by exact absurd hco hp4) dX3_serve_37
  exact hL2 121 0 _ (by rw [show (0 : Int).toNat = 0 from rfl]; exact (up_id w j).symm) _ _ ls (by omega) (by omega) (by omega) hW (lv_sub hl [0, 1, 2] rfl)

/-- X3_passDays: its end -/
def po_X3_passDays (w : gW) (j : Nat) (nd : Int) (wt : Int) : Int → gW → Prop := fun z w1 => iI z = iI (gN (dyX (w j) wt nd) 0 13 - gN (w j) 0 13) ∧ w1 = up w j (dyX (w j) wt nd)
theorem hdV_X3_passDays : yX3_passDays.cls = RX3 ∧ yX3_passDays.cls ≠ "java/lang/invoke/MethodHandle" ∧ yX3_passDays.cls ≠ "java/lang/invoke/VarHandle" ∧ (parseMethodDescriptor yX3_passDays.desc).map (fun d => d.parameters.length) = some 2 := by decide +kernel
set_option maxHeartbeats 4000000 in
set_option maxRecDepth 100000 in
theorem c_X3_passDays (l : Launch) (G : gG) (w : gW) {j : Nat} (hj : ms j) (hwf : wf (w j)) (nd : Int) (wt : Int) (rnd : inR nd) (rwt : inR wt) (hnd : 0 ≤ nd ∧ nd ≤ 60) (hwt : 0 ≤ wt ∧ wt ≤ 2) : mI l G yX3_passDays (wU yX3_passDays cX3_passDays 6 (some .int)) (rmL 5 99) [.ref (ad G j 0), .int (iI nd), .int (iI wt)] w (po_X3_passDays w j nd wt) := by
  refine mI_of (by decide +kernel) (Nat.le_of_ble_eq_true rfl) (fun p e s m args below meth c ls C0 hW hl => ?_)
  have hl : lv_has ls 6 [(0, .ref (ad G j 0)), (1, .int (iI nd)), (2, .int (iI wt))] := hl
  have hx := C0.hx
  have hb := C0.hb
  obtain ⟨⟨hs1, hs2⟩, ⟨hd1, hd2, hd3⟩, -, -, -, -, ⟨hr1, hr2⟩, ⟨hc1, hc2⟩, hds⟩ := id hwf
  refine lv_aload_n hx hb dX3_passDays_0 rfl (lv_at hl 0 rfl) ?_
  refine r_gI C0 hW (ms_lt hj 0 (by decide)) (ceX_m hj G 0 _ _) rfl hiX3 (k := 13) (by decide) kf_X3_71 rfl rfl rfl dX3_passDays_1 (fun z1 (hz1 : z1 = gN (w j) 0 13) rz1 => ?_)
  have rz1a := rz1.1
  have rz1b := rz1.2
  refine lv_istore_n (lv' := [(3, .int (iI z1)), (0, .ref (ad G j 0)), (1, .int (iI nd)), (2, .int (iI wt))]) hx hb dX3_passDays_4 rfl hl (by decide) rfl (fun ls hl => ?_)
  refine r_iconst hx hb dX3_passDays_5 ?_
  refine lv_istore (lv' := [(4, .int (iI 0)), (3, .int (iI z1)), (0, .ref (ad G j 0)), (1, .int (iI nd)), (2, .int (iI wt))]) hx hb dX3_passDays_6 hl (by decide) rfl (fun ls hl => ?_)
  have hL8 : ∀ (n : Nat) (x4 : Int) (wv : gW) (hwv : wv = up w j (dyX (w j) wt x4)) (H0 : Heap) (locs0 : List Loc) (ls : Array Slot) (hm : nd - x4 < (n : Int)) (i8_0 : 0 ≤ x4) (i8_1 : x4 ≤ nd) (hW : wo G wv s H0 locs0) (hl : lv_has ls 6 [(4, .int (iI x4)), (3, .int (iI z1)), (0, .ref (ad G j 0)), (1, .int (iI nd)), (2, .int (iI wt))]), W p l e (rmL 5 99) s m args below meth c H0 locs0 0 0 (QI G (po_X3_passDays w j nd wt) below args s) (F0 m 8 ls []) := by
    intro n
    induction n with
    | zero =>
      intro x4 wv hwv H0 locs0 ls hm i8_0 i8_1 hW hl
      exact absurd hm (by omega)
    | succ n ih8 =>
      intro x4 wv hwv H0 locs0 ls hm i8_0 i8_1 hW hl
      have hwD : wf (dyX (w j) wt x4) := wf_dyX wt x4 hwf
      have hwvf : wf (wv j) := by rw [hwv, up_s]; exact hwD
      have hvr := hwD.2.2.2.2.2.2.1
      refine lv_iload hx hb dX3_passDays_8 (lv_at hl 0 rfl) ?_
      refine lv_iload_n hx hb dX3_passDays_10 rfl (lv_at hl 3 rfl) ?_
      refine r_icmp_ge (tgt := 76) hx hb ⟨by omega, by omega⟩ rnd dX3_passDays_11 (by decide) (fun c2 => ?_) (fun c2 => ?_)
      · refine lv_aload_n hx hb dX3_passDays_76 rfl (lv_at hl 2 rfl) ?_
        refine r_gI C0 hW (ms_lt hj 0 (by decide)) (ceX_m hj G 0 _ _) rfl hiX3 (k := 13) (by decide) kf_X3_71 rfl rfl rfl dX3_passDays_77 (fun z3 (hz3 : z3 = gN (wv j) 0 13) rz3 => ?_)
        have rz3a := rz3.1
        have rz3b := rz3.2
        try simp (decide := true) only [hwv, up_s, gA_sF, gN_sF, gA_sA, gN_sA, gA_sS, gN_sS, if_true, if_false, true_and, and_true, false_and, and_false, gN_srv, gN_wet1] at hz3
        refine lv_iload_n hx hb dX3_passDays_80 rfl (lv_at hl 1 rfl) ?_
        refine r_isub hx hb dX3_passDays_81 ?_
        rw [← iI_o (iI (z3 - z1))]
        exact r_iret C0 hW (inR_o _) (⟨by rw [iI_o, show nd = x4 from by omega]; simp only [hz1, hz3], by rw [show nd = x4 from by omega]; exact hwv⟩) dX3_passDays_82
      · refine lv_aload_n hx hb dX3_passDays_14 rfl (lv_at hl 2 rfl) ?_
        refine r_gR C0 hW (ms_lt hj 0 (by decide)) (ceX_m hj G 0 _ _) rfl hiX3 (k := 6) (by decide) kf_X3_33 rfl rfl rfl dX3_passDays_15 ?_
        refine lv_iload_n hx hb dX3_passDays_18 rfl (lv_at hl 4 rfl) ?_
        refine k_Vv (j := j) (k0 := 7) C0 hW (c_X4_dryOrWet l G wv hj (by exact hwvf) wt rwt) km_X3_100 ki_X4_dryOrWet ke_X4_dryOrWet kn_X4 kc_X4_dryOrWet rfl hdV_X4_dryOrWet ⟨by decide, by decide⟩ (ms_lt hj 7 (by decide)) (ceX_m hj G 7 _ _) rfl rfl hl.1 rfl (Nat.le_of_ble_eq_true rfl) dX3_passDays_19 (fun w4 H1 locs1 hp4 hW => ?_)
        have hw4 : w4 = _ := hp4
        refine r_iconst hx hb dX3_passDays_22 ?_
        refine lv_istore (lv' := [(5, .int (iI 0)), (4, .int (iI x4)), (3, .int (iI z1)), (0, .ref (ad G j 0)), (1, .int (iI nd)), (2, .int (iI wt))]) hx hb dX3_passDays_23 hl (by decide) rfl (fun ls hl => ?_)
        refine lv_iload hx hb dX3_passDays_25 (lv_at hl 0 rfl) ?_
        refine r_iconst hx hb dX3_passDays_27 ?_
        refine r_icmp_ge (tgt := 47) hx hb ⟨by omega, by omega⟩ ⟨by omega, by omega⟩ dX3_passDays_28 (by decide) (fun q => absurd q (by decide)) (fun _ => ?_)
        refine lv_aload_n hx hb dX3_passDays_31 rfl (lv_at hl 3 rfl) ?_
        refine lv_aload_n hx hb dX3_passDays_32 rfl (lv_at hl 3 rfl) ?_
        refine lv_iload hx hb dX3_passDays_33 (lv_at hl 0 rfl) ?_
        refine k_Vi (j := j) (k0 := 0) C0 hW (c_X3_commonerOfCart l G w4 hj (by simp only [hw4, hwv, up_up, up_s]; exact wf_wet _ hwD) 0 ⟨by omega, by omega⟩ (by omega)) km_X3_104 ki_X3_commonerOfCart ke_X3_commonerOfCart kn_X3 kc_X3_commonerOfCart rfl hdV_X3_commonerOfCart ⟨by decide, by decide⟩ (ms_lt hj 0 (by decide)) (ceX_m hj G 0 _ _) rfl rfl hl.1 rfl (Nat.le_of_ble_eq_true rfl) dX3_passDays_35 (fun z5 w5 H1 locs1 rz5 hp5 hW => ?_)
        obtain ⟨hp5, hq5⟩ := hp5
        subst hq5
        have rz5a := rz5.1
        have rz5b := rz5.2
        try simp (decide := true) only [hw4, hwv, up_s, gA_sF, gN_sF, gA_sA, gN_sA, gA_sS, gN_sS, if_true, if_false, true_and, and_true, false_and, and_false, gN_srv, gN_wet1] at hp5
        have qz5 : z5 = (gN (dyX (w j) wt x4) 0 10 % 10) := by
          have q := hp5.1
          try simp (decide := true) only [hw4, hwv, up_s, gA_sF, gN_sF, gA_sA, gN_sA, gA_sS, gN_sS, if_true, if_false, true_and, and_true, false_and, and_false, gN_srv, gN_wet1, gN_srv, gN_wet1] at q
          omega
        have hz9z5 := hp5.2
        refine k_Vv (j := j) (k0 := 0) C0 hW (c_X3_serve l G w4 hj (by simp only [hw4, hwv, up_up, up_s]; exact wf_wet _ hwD) z5 rz5 (by omega)) km_X3_108 ki_X3_serve ke_X3_serve kn_X3 kc_X3_serve rfl hdV_X3_serve ⟨by decide, by decide⟩ (ms_lt hj 0 (by decide)) (ceX_m hj G 0 _ _) rfl rfl hl.1 rfl (Nat.le_of_ble_eq_true rfl) dX3_passDays_38 (fun w6 H1 locs1 hp6 hW => ?_)
        have hw6 : w6 = _ := hp6
        refine r_iinc (lv' := [(5, .int (iI (0 + 1))), (4, .int (iI x4)), (3, .int (iI z1)), (0, .ref (ad G j 0)), (1, .int (iI nd)), (2, .int (iI wt))]) hx hb dX3_passDays_41 hl (k := 0) rfl (by decide) rfl (fun ls hl => ?_)
        refine lv_goto (tgt := 25) hx hb dX3_passDays_44 (by decide) ?_
        refine lv_iload hx hb dX3_passDays_25 (lv_at hl 0 rfl) ?_
        refine r_iconst hx hb dX3_passDays_27 ?_
        refine r_icmp_ge (tgt := 47) hx hb ⟨by omega, by omega⟩ ⟨by omega, by omega⟩ dX3_passDays_28 (by decide) (fun q => absurd q (by decide)) (fun _ => ?_)
        refine lv_aload_n hx hb dX3_passDays_31 rfl (lv_at hl 3 rfl) ?_
        refine lv_aload_n hx hb dX3_passDays_32 rfl (lv_at hl 3 rfl) ?_
        refine lv_iload hx hb dX3_passDays_33 (lv_at hl 0 rfl) ?_
        refine k_Vi (j := j) (k0 := 0) C0 hW (c_X3_commonerOfCart l G w6 hj (by simp only [hw6, hw4, hwv, up_up, up_s]; exact wf_srv _ (wf_wet _ hwD)) (0 + 1) ⟨by omega, by omega⟩ (by omega)) km_X3_104 ki_X3_commonerOfCart ke_X3_commonerOfCart kn_X3 kc_X3_commonerOfCart rfl hdV_X3_commonerOfCart ⟨by decide, by decide⟩ (ms_lt hj 0 (by decide)) (ceX_m hj G 0 _ _) rfl rfl hl.1 rfl (Nat.le_of_ble_eq_true rfl) dX3_passDays_35 (fun z7 w7 H1 locs1 rz7 hp7 hW => ?_)
        obtain ⟨hp7, hq7⟩ := hp7
        subst hq7
        have rz7a := rz7.1
        have rz7b := rz7.2
        try simp (decide := true) only [hw6, hw4, hwv, up_s, gA_sF, gN_sF, gA_sA, gN_sA, gA_sS, gN_sS, if_true, if_false, true_and, and_true, false_and, and_false, gN_srv, gN_wet1] at hp7
        have qz7 : z7 = (gN (dyX (w j) wt x4) 0 10 + 5) % 10 := by
          have q := hp7.1
          try simp (decide := true) only [hw6, hw4, hwv, up_s, gA_sF, gN_sF, gA_sA, gN_sA, gA_sS, gN_sS, if_true, if_false, true_and, and_true, false_and, and_false, gN_srv, gN_wet1, gN_srv, gN_wet1] at q
          omega
        have hz9z7 := hp7.2
        refine k_Vv (j := j) (k0 := 0) C0 hW (c_X3_serve l G w6 hj (by simp only [hw6, hw4, hwv, up_up, up_s]; exact wf_srv _ (wf_wet _ hwD)) z7 rz7 (by omega)) km_X3_108 ki_X3_serve ke_X3_serve kn_X3 kc_X3_serve rfl hdV_X3_serve ⟨by decide, by decide⟩ (ms_lt hj 0 (by decide)) (ceX_m hj G 0 _ _) rfl rfl hl.1 rfl (Nat.le_of_ble_eq_true rfl) dX3_passDays_38 (fun w8 H1 locs1 hp8 hW => ?_)
        have hw8 : w8 = _ := hp8
        refine r_iinc (lv' := [(5, .int (iI ((0 + 1) + 1))), (4, .int (iI x4)), (3, .int (iI z1)), (0, .ref (ad G j 0)), (1, .int (iI nd)), (2, .int (iI wt))]) hx hb dX3_passDays_41 hl (k := 0) rfl (by decide) rfl (fun ls hl => ?_)
        refine lv_goto (tgt := 25) hx hb dX3_passDays_44 (by decide) ?_
        refine lv_iload hx hb dX3_passDays_25 (lv_at hl 0 rfl) ?_
        refine r_iconst hx hb dX3_passDays_27 ?_
        refine r_icmp_ge (tgt := 47) hx hb ⟨by omega, by omega⟩ ⟨by omega, by omega⟩ dX3_passDays_28 (by decide) (fun _ => ?_) (fun q => absurd q (by decide))
        refine lv_aload_n hx hb dX3_passDays_47 rfl (lv_at hl 3 rfl) ?_
        refine lv_aload_n hx hb dX3_passDays_48 rfl (lv_at hl 3 rfl) ?_
        refine r_gI C0 hW (ms_lt hj 0 (by decide)) (ceX_m hj G 0 _ _) rfl hiX3 (k := 10) (by decide) kf_X3_62 rfl rfl rfl dX3_passDays_49 (fun z9 (hz9 : z9 = gN (w8 j) 0 10) rz9 => ?_)
        have rz9a := rz9.1
        have rz9b := rz9.2
        try simp (decide := true) only [hw8, hw6, hw4, hwv, up_s, gA_sF, gN_sF, gA_sA, gN_sA, gA_sS, gN_sS, if_true, if_false, true_and, and_true, false_and, and_false, gN_srv, gN_wet1] at hz9
        refine r_iconst hx hb dX3_passDays_52 ?_
        refine r_iadd hx hb dX3_passDays_53 ?_
        refine r_bipush hx hb dX3_passDays_54 (by decide) ?_
        refine r_irem hx hb ⟨by omega, by omega⟩ ⟨by omega, by omega⟩ (by omega) (by omega) dX3_passDays_56 ?_
        refine r_pI C0 hW (ms_lt hj 0 (by decide)) (ceX_m hj G 0 _ _) rfl hiX3 tyX3 tyX3_ok nmX3 (k := 10) (v := iI ((z9 + 1) % 10)) (by decide) kf_X3_62 rfl rfl rfl (tyX3_ok 10 (by decide)) rfl rfl (by simp) (ceX_m hj G 0 _ _) dX3_passDays_57 (fun H1 locs1 hW => ?_)
        obtain ⟨w10, hw10⟩ : ∃ wq9 : gW, wq9 = up w8 j (sS (w8 j) 0 10 (iI ((z9 + 1) % 10))) := ⟨_, rfl⟩
        rw [← hw10] at hW
        refine lv_aload_n hx hb dX3_passDays_60 rfl (lv_at hl 3 rfl) ?_
        refine lv_dup hx hb dX3_passDays_61 rfl ?_
        refine r_gI C0 hW (ms_lt hj 0 (by decide)) (ceX_m hj G 0 _ _) rfl hiX3 (k := 11) (by decide) kf_X3_65 rfl rfl rfl dX3_passDays_62 (fun z11 (hz11 : z11 = gN (w10 j) 0 11) rz11 => ?_)
        have rz11a := rz11.1
        have rz11b := rz11.2
        try simp (decide := true) only [hw10, hw8, hw6, hw4, hwv, up_s, gA_sF, gN_sF, gA_sA, gN_sA, gA_sS, gN_sS, if_true, if_false, true_and, and_true, false_and, and_false, gN_srv, gN_wet1] at hz11
        refine r_iconst hx hb dX3_passDays_65 ?_
        refine r_iadd hx hb dX3_passDays_66 ?_
        refine r_pI C0 hW (ms_lt hj 0 (by decide)) (ceX_m hj G 0 _ _) rfl hiX3 tyX3 tyX3_ok nmX3 (k := 11) (v := iI (z11 + 1)) (by decide) kf_X3_65 rfl rfl rfl (tyX3_ok 11 (by decide)) rfl rfl (by simp) (ceX_m hj G 0 _ _) dX3_passDays_67 (fun H1 locs1 hW => ?_)
        obtain ⟨w12, hw12⟩ : ∃ wq9 : gW, wq9 = up w10 j (sS (w10 j) 0 11 (iI (z11 + 1))) := ⟨_, rfl⟩
        rw [← hw12] at hW
        refine r_iinc (lv' := [(4, .int (iI (x4 + 1))), (5, .int (iI ((0 + 1) + 1))), (3, .int (iI z1)), (0, .ref (ad G j 0)), (1, .int (iI nd)), (2, .int (iI wt))]) hx hb dX3_passDays_70 hl (k := 1) rfl (by decide) rfl (fun ls hl => ?_)
        refine lv_goto (tgt := 8) hx hb dX3_passDays_73 (by decide) ?_
        exact ih8 (x4 + 1) _ (by rw [dyX_s _ _ (by omega)]; simp only [hw12, hw10, hw8, hw6, hw4, hwv, up_up, up_s, dayM, wet1, hz1, qz5, qz7, hz9, hz11]) _ _ ls (by omega) (by omega) (by omega) hW (lv_sub hl [0, 2, 3, 4, 5] rfl)
  exact hL8 121 0 _ (by rw [dyX_0, up_id]) _ _ ls (by omega) (by omega) (by omega) hW (lv_sub hl [0, 1, 2, 3, 4] rfl)
