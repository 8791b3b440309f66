/-- X6_would: its end -/
def po_X6_would (w : gW) (d : Int) (v : Int) : Int → gW → Prop := fun z w1 => ((¬ ((1 ≤ d ∧ d ≤ 60) ∧ (0 ≤ v ∧ v ≤ 2))) ∧ (z = -2) ∧ (w1 = up w 10 (sS (w 10) 0 0 (iI 0)))) ∨ ((1 ≤ d ∧ d ≤ 60) ∧ (0 ≤ v ∧ v ≤ 2) ∧ (z = sumX (nA ((w 10).1 1) v) d) ∧ (w1 = up w 10 (sS (sF (sF (w 10) 2 (selG ((w 10).1 2) ((w 10).1 1) 0 941)) 1 (selG (dAX ((w 10).1 1) v d) (selG ((w 10).1 2) ((w 10).1 1) 0 941) 0 941)) 0 0 (iI 0))))
theorem hdV_X6_would : yX6_would.cls = RX6 ∧ yX6_would.cls ≠ "java/lang/invoke/MethodHandle" ∧ yX6_would.cls ≠ "java/lang/invoke/VarHandle" ∧ (parseMethodDescriptor yX6_would.desc).map (fun d => d.parameters.length) = some 2 := by decide +kernel
set_option maxHeartbeats 4000000 in
set_option maxRecDepth 100000 in
theorem c_X6_would (l : Launch) (G : gG) (w : gW) (d : Int) (v : Int) (rd : inR d) (rv : inR v) (hM : mO w) : mI l G yX6_would (wU yX6_would cX6_would 5 (some .int)) (rmL 4 92) [.ref (ad G 10 0), .int (iI d), .int (iI v)] w (po_X6_would w d v) := by
  refine mI_of (by decide +kernel) (Nat.le_of_ble_eq_true rfl) (fun p e s m args below meth c ls C0 hW hl => ?_)
  have hl : lv_has ls 5 [(0, .ref (ad G 10 0)), (1, .int (iI d)), (2, .int (iI v))] := hl
  have hx := C0.hx
  have hb := C0.hb
  obtain ⟨hwA, hop, hds, hsm, hln, hdy, hsk⟩ := id hM
  obtain ⟨hv1, hv2, hv3, hv4⟩ := id hwA
  refine lv_aload_n hx hb dX6_would_0 rfl (lv_at hl 0 rfl) ?_
  refine r_iconst hx hb dX6_would_1 ?_
  refine r_pI C0 hW (show 10 < 11 ∧ 0 < bs 10 from ⟨by decide, by decide⟩) rfl rfl hiX6 tyX6 tyX6_ok nmX6 (k := 0) (v := iI 0) (by decide) kf_X6_28 rfl rfl rfl (tyX6_ok 0 (by decide)) rfl rfl (by simp) rfl dX6_would_2 (fun H1 locs1 hW => ?_)
  obtain ⟨w1, hw1⟩ : ∃ wq9 : gW, wq9 = up w 10 (sS (w 10) 0 0 (iI 0)) := ⟨_, rfl⟩
  rw [← hw1] at hW
  refine lv_iload_n hx hb dX6_would_5 rfl (lv_at hl 1 rfl) ?_
  refine r_iconst hx hb dX6_would_6 ?_
  refine r_bipush hx hb dX6_would_7 (by decide) ?_
  refine k_Si (host := "") C0 hW (As := [.int (iI d), .int (iI 1), .int (iI 60)]) (c_X6_in l G w1 d 1 60 rd ⟨by omega, by omega⟩ ⟨by omega, by omega⟩) km_X6_32 ks_X6_in kn_X6 kc_X6_in rfl hdS_X6_in ⟨by decide, by decide⟩ rfl hl.1 rfl (Nat.le_of_ble_eq_true rfl) dX6_would_9 (fun z2 w2 H1 locs1 rz2 hp2 hW => ?_)
  obtain ⟨hp2, hq2⟩ := hp2
  subst hq2
  have rz2a := rz2.1
  have rz2b := rz2.2
  try simp (decide := true) only [hw1, up_s, gA_s, gA_sn, gN_sF, gA_sS, gN_sS, sA_st, sF_sF, sF_sS, sS_sS, arr_s, arr_n, arr_S, gA_aI, if_true, if_false, true_and, and_true, false_and, and_false, recS_1, recS_4, recS_5, recS_6, gN_rec, gA_sx, iIt0, iIt1] at hp2
  rcases hp2 with ⟨e2, hp2⟩ | ⟨e2, hp2⟩
  · subst e2
    refine r_if_eq (tgt := 24) hx hb ⟨by omega, by omega⟩ dX6_would_12 (by decide) (fun q => absurd q (by decide)) (fun _ => ?_)
    refine lv_iload_n hx hb dX6_would_15 rfl (lv_at hl 2 rfl) ?_
    refine r_iconst hx hb dX6_would_16 ?_
    refine r_iconst hx hb dX6_would_17 ?_
    refine k_Si (host := "") C0 hW (As := [.int (iI v), .int (iI 0), .int (iI 2)]) (c_X6_in l G w1 v 0 2 rv ⟨by omega, by omega⟩ ⟨by omega, by omega⟩) km_X6_32 ks_X6_in kn_X6 kc_X6_in rfl hdS_X6_in ⟨by decide, by decide⟩ rfl hl.1 rfl (Nat.le_of_ble_eq_true rfl) dX6_would_18 (fun z3 w3 H1 locs1 rz3 hp3 hW => ?_)
    obtain ⟨hp3, hq3⟩ := hp3
    subst hq3
    have rz3a := rz3.1
    have rz3b := rz3.2
    try simp (decide := true) only [hw1, up_s, gA_s, gA_sn, gN_sF, gA_sS, gN_sS, sA_st, sF_sF, sF_sS, sS_sS, arr_s, arr_n, arr_S, gA_aI, if_true, if_false, true_and, and_true, false_and, and_false, recS_1, recS_4, recS_5, recS_6, gN_rec, gA_sx, iIt0, iIt1] at hp3
    rcases hp3 with ⟨e3, hp3⟩ | ⟨e3, hp3⟩
    · subst e3
      refine r_if_ne (tgt := 27) hx hb ⟨by omega, by omega⟩ dX6_would_21 (by decide) (fun _ => ?_) (fun q => absurd q (by decide))
      refine r_iconst hx hb dX6_would_27 ?_
      refine lv_istore_n (lv' := [(3, .int (iI 0)), (0, .ref (ad G 10 0)), (1, .int (iI d)), (2, .int (iI v))]) hx hb dX6_would_28 rfl hl (by decide) rfl (fun ls hl => ?_)
      have hL29 : ∀ (n : Nat) (x3 : Int) (wv : gW) (hwv : wv = up w 10 (sS (sF (w 10) 2 (selG ((w 10).1 2) ((w 10).1 1) 0 x3)) 0 0 (iI 0))) (H0 : Heap) (locs0 : List Loc) (ls : Array Slot) (hm : 941 - x3 < (n : Int)) (i29_0 : 0 ≤ x3) (i29_1 : x3 ≤ 941) (hW : wo G wv s H0 locs0) (hl : lv_has ls 5 [(3, .int (iI x3)), (0, .ref (ad G 10 0)), (1, .int (iI d)), (2, .int (iI v))]), W p l e (rmL 4 92) s m args below meth c H0 locs0 0 0 (QI G (po_X6_would w d v) below args s) (F0 m 29 ls []) := by
        intro n
        induction n with
        | zero =>
          intro x3 wv hwv H0 locs0 ls hm i29_0 i29_1 hW hl
          exact absurd hm (by omega)
        | succ n ih29 =>
          intro x3 wv hwv H0 locs0 ls hm i29_0 i29_1 hW hl
          refine lv_iload_n hx hb dX6_would_29 rfl (lv_at hl 0 rfl) ?_
          refine r_sipush hx hb dX6_would_30 (by decide) ?_
          refine r_icmp_ge (tgt := 54) hx hb ⟨by omega, by omega⟩ ⟨by omega, by omega⟩ dX6_would_33 (by decide) (fun c4 => ?_) (fun c4 => ?_)
          · have hE1 : wv = up w 10 (sS (sF (sF (w 10) 2 (selG ((w 10).1 2) ((w 10).1 1) 0 941)) 1 ((w 10).1 1)) 0 0 (iI 0)) := by rw [hwv, show x3 = 941 from by omega, show sF (sF (w 10) 2 (selG ((w 10).1 2) ((w 10).1 1) 0 941)) 1 ((w 10).1 1) = sF (w 10) 2 (selG ((w 10).1 2) ((w 10).1 1) 0 941) from sF_id _ _]
            refine r_iconst hx hb dX6_would_54 ?_
            refine lv_istore_n (lv' := [(3, .int (iI 0)), (0, .ref (ad G 10 0)), (1, .int (iI d)), (2, .int (iI v))]) hx hb dX6_would_55 rfl hl (by decide) rfl (fun ls hl => ?_)
            refine r_iconst hx hb dX6_would_56 ?_
            refine lv_istore (lv' := [(4, .int (iI 0)), (3, .int (iI 0)), (0, .ref (ad G 10 0)), (1, .int (iI d)), (2, .int (iI v))]) hx hb dX6_would_57 hl (by decide) rfl (fun ls hl => ?_)
            have hL59 : ∀ (n : Nat) (y3 : Int) (y4 : Int) (wy : gW) (hwy : wy = up w 10 (sS (sF (sF (w 10) 2 (selG ((w 10).1 2) ((w 10).1 1) 0 941)) 1 (dAX ((w 10).1 1) v y4)) 0 0 (iI 0))) (H0 : Heap) (locs0 : List Loc) (ls : Array Slot) (hm : d - y4 < (n : Int)) (i59_0 : 0 ≤ y4) (i59_1 : y4 ≤ d) (i59_2 : y3 = sumX (nA ((w 10).1 1) v) y4) (hW : wo G wy s H0 locs0) (hl : lv_has ls 5 [(4, .int (iI y4)), (3, .int (iI y3)), (0, .ref (ad G 10 0)), (1, .int (iI d)), (2, .int (iI v))]), W p l e (rmL 4 92) s m args below meth c H0 locs0 0 0 (QI G (po_X6_would w d v) below args s) (F0 m 59 ls []) := by
              intro n
              induction n with
              | zero =>
                intro y3 y4 wy hwy H0 locs0 ls hm i59_0 i59_1 i59_2 hW hl
                exact absurd hm (by omega)
              | succ n ih59 =>
                intro y3 y4 wy hwy H0 locs0 ls hm i59_0 i59_1 i59_2 hW hl
                refine lv_iload hx hb dX6_would_59 (lv_at hl 0 rfl) ?_
                refine lv_iload_n hx hb dX6_would_61 rfl (lv_at hl 3 rfl) ?_
                refine r_icmp_ge (tgt := 79) hx hb ⟨by omega, by omega⟩ rd dX6_would_62 (by decide) (fun c5 => ?_) (fun c5 => ?_)
                · have ey4 : y4 = d := by omega
                  have hnn := nAX_le v hwA (x := y4) i59_0
                  refine r_iconst hx hb dX6_would_79 ?_
                  refine lv_istore (lv' := [(4, .int (iI 0)), (3, .int (iI y3)), (0, .ref (ad G 10 0)), (1, .int (iI d)), (2, .int (iI v))]) hx hb dX6_would_80 hl (by decide) rfl (fun ls hl => ?_)
                  have hL82 : ∀ (n : Nat) (u4 : Int) (wz : gW) (hwz : wz = up w 10 (sS (sF (sF (w 10) 2 (selG ((w 10).1 2) ((w 10).1 1) 0 941)) 1 (selG (dAX ((w 10).1 1) v y4) (selG ((w 10).1 2) ((w 10).1 1) 0 941) 0 u4)) 0 0 (iI 0))) (H0 : Heap) (locs0 : List Loc) (ls : Array Slot) (hm : 941 - u4 < (n : Int)) (i82_0 : 0 ≤ u4) (i82_1 : u4 ≤ 941) (hW : wo G wz s H0 locs0) (hl : lv_has ls 5 [(4, .int (iI u4)), (3, .int (iI y3)), (0, .ref (ad G 10 0)), (1, .int (iI d)), (2, .int (iI v))]), W p l e (rmL 4 92) s m args below meth c H0 locs0 0 0 (QI G (po_X6_would w d v) below args s) (F0 m 82 ls []) := by
                    intro n
                    induction n with
                    | zero =>
                      intro u4 wz hwz H0 locs0 ls hm i82_0 i82_1 hW hl
                      exact absurd hm (by omega)
                    | succ n ih82 =>
                      intro u4 wz hwz H0 locs0 ls hm i82_0 i82_1 hW hl
                      refine lv_iload hx hb dX6_would_82 (lv_at hl 0 rfl) ?_
                      refine r_sipush hx hb dX6_would_84 (by decide) ?_
                      refine r_icmp_ge (tgt := 110) hx hb ⟨by omega, by omega⟩ ⟨by omega, by omega⟩ dX6_would_87 (by decide) (fun c6 => ?_) (fun c6 => ?_)
                      · refine lv_iload_n hx hb dX6_would_110 rfl (lv_at hl 1 rfl) ?_
                        exact r_iret C0 hW ⟨by omega, by omega⟩ (by first | exact Or.inl (⟨(by first | assumption | omega | trivial), (by first | omega | assumption | (simp only [id])), (by simp (decide := true) only [hwz, up_up, up_s, gA_s, gA_sn, gN_sF, gA_sS, gN_sS, sA_st, sF_sF, sF_sS, sS_sS, arr_s, arr_n, arr_S, gA_aI, if_true, if_false, true_and, and_true, false_and, and_false, recS_1, recS_4, recS_5, recS_6, gN_rec, gA_sx, iIt0, iIt1, id])⟩) | exact Or.inr (⟨(by first | assumption | omega | trivial), (by first | assumption | omega | trivial), (by rw [show d = y4 from by omega]; exact i59_2), (by rw [hwz, show u4 = 941 from by omega, show y4 = d from by omega])⟩)) dX6_would_111
                      · refine lv_aload_n hx hb dX6_would_90 rfl (lv_at hl 2 rfl) ?_
                        refine r_gR C0 hW (show 10 < 11 ∧ 0 < bs 10 from ⟨by decide, by decide⟩) rfl rfl hiX6 (k := 1) (by decide) kf_X6_7 rfl rfl rfl dX6_would_91 ?_
                        refine lv_iload hx hb dX6_would_94 (lv_at hl 0 rfl) ?_
                        refine lv_aload_n hx hb dX6_would_96 rfl (lv_at hl 2 rfl) ?_
                        refine r_gR C0 hW (show 10 < 11 ∧ 0 < bs 10 from ⟨by decide, by decide⟩) rfl rfl hiX6 (k := 2) (by decide) kf_X6_13 rfl rfl rfl dX6_would_97 ?_
                        refine lv_iload hx hb dX6_would_100 (lv_at hl 0 rfl) ?_
                        refine r_ild C0 hW (show 10 < 11 ∧ 2 < bs 10 from ⟨by decide, by decide⟩) rfl (n := 941) (by omega) (by omega) (by omega) dX6_would_102 (fun z7 (hz7 : z7 = gA (wz 10) 2 u4) rz7 => ?_)
                        have rz7a := rz7.1
                        have rz7b := rz7.2
                        try simp (decide := true) only [hwz, up_s, gA_s, gA_sn, gN_sF, gA_sS, gN_sS, sA_st, sF_sF, sF_sS, sS_sS, arr_s, arr_n, arr_S, gA_aI, if_true, if_false, true_and, and_true, false_and, and_false, recS_1, recS_4, recS_5, recS_6, gN_rec, gA_sx, iIt0, iIt1] at hz7
                        refine r_ist C0 hW (show 10 < 11 ∧ 1 < bs 10 from ⟨by decide, by decide⟩) (fun A => rfl) (n := 941) (v := iI z7) (by omega) (by omega) (by decide) dX6_would_103 (fun H1 locs1 hW => ?_)
                        obtain ⟨w8, hw8⟩ : ∃ wq9 : gW, wq9 = up wz 10 (sA (wz 10) 1 u4 (iI z7)) := ⟨_, rfl⟩
                        rw [← hw8] at hW
                        refine r_iinc (lv' := [(4, .int (iI (u4 + 1))), (3, .int (iI y3)), (0, .ref (ad G 10 0)), (1, .int (iI d)), (2, .int (iI v))]) hx hb dX6_would_104 hl (k := 0) rfl (by decide) rfl (fun ls hl => ?_)
                        refine lv_goto (tgt := 82) hx hb dX6_would_107 (by decide) ?_
                        exact ih82 (u4 + 1) _ (by simp (decide := true) only [hw8, hwz, up_up, up_s, sA_st, arr_S, arr_s, sF_sS, sF_sF]; rw [selG_s _ _ (by omega), show iI z7 = (selG ((w 10).1 2) ((w 10).1 1) 0 941) u4 from by rw [hz7]; exact aI_i _ _]) _ _ ls (by omega) (by omega) (by omega) hW (lv_sub hl [0, 1, 2, 3, 4] rfl)
                  exact hL82 942 0 _ (by rw [selG_0 (dAX ((w 10).1 1) v y4) _ (lo := 0) (hi := 0) (by decide)]; exact hwy) _ _ ls (by omega) (by omega) (by omega) hW (lv_sub hl [0, 1, 2, 3, 4] rfl)
                · have hnn := nAX_le v hwA (x := y4) i59_0
                  refine lv_iload_n hx hb dX6_would_65 rfl (lv_at hl 1 rfl) ?_
                  refine lv_aload_n hx hb dX6_would_66 rfl (lv_at hl 2 rfl) ?_
                  refine lv_iload_n hx hb dX6_would_67 rfl (lv_at hl 4 rfl) ?_
                  refine k_Vi (j := 10) (k0 := 0) C0 hW (c_X6_passes l G wy v rv (by rw [hwy, up_s]; simp (decide := true) only [up_s, gA_s, gA_sn, gN_sF, gA_sS, gN_sS, sA_st, sF_sF, sF_sS, sS_sS, arr_s, arr_n, arr_S, gA_aI, if_true, if_false, true_and, and_true, false_and, and_false, recS_1, recS_4, recS_5, recS_6, gN_rec, gA_sx, iIt0, iIt1]; exact wA_dX _ _ hwA)) km_X6_103 ki_X6_passes ke_X6_passes kn_X6 kc_X6_passes rfl hdV_X6_passes ⟨by decide, by decide⟩ (show 10 < 11 ∧ 0 < bs 10 from ⟨by decide, by decide⟩) rfl rfl rfl hl.1 rfl (Nat.le_of_ble_eq_true rfl) dX6_would_68 (fun z9 w9 H1 locs1 rz9 hp9 hW => ?_)
                  obtain ⟨hp9, hw9⟩ := hp9
                  have rz9a := rz9.1
                  have rz9b := rz9.2
                  refine r_iadd hx hb dX6_would_71 ?_
                  refine lv_istore_n (lv' := [(3, .int (iI (y3 + z9))), (4, .int (iI y4)), (0, .ref (ad G 10 0)), (1, .int (iI d)), (2, .int (iI v))]) hx hb dX6_would_72 rfl hl (by decide) rfl (fun ls hl => ?_)
                  refine r_iinc (lv' := [(4, .int (iI (y4 + 1))), (3, .int (iI (y3 + z9))), (0, .ref (ad G 10 0)), (1, .int (iI d)), (2, .int (iI v))]) hx hb dX6_would_73 hl (k := 1) rfl (by decide) rfl (fun ls hl => ?_)
                  refine lv_goto (tgt := 59) hx hb dX6_would_76 (by decide) ?_
                  exact ih59 (y3 + z9) (y4 + 1) _ (by rw [dAX_s _ _ (by omega)]; simp (decide := true) only [hw9, hwy, up_up, up_s, gA_s, gA_sn, gN_sF, gA_sS, gN_sS, sA_st, sF_sF, sF_sS, sS_sS, arr_s, arr_n, arr_S, gA_aI, if_true, if_false, true_and, and_true, false_and, and_false, recS_1, recS_4, recS_5, recS_6, gN_rec, gA_sx, iIt0, iIt1]) _ _ ls (by omega) (by omega) (by omega) (by rw [sumX_s _ (by omega), i59_2]; have q := hp9; simp (decide := true) only [hw9, hwy, up_s, gA_s, gA_sn, gN_sF, gA_sS, gN_sS, sA_st, sF_sF, sF_sS, sS_sS, arr_s, arr_n, arr_S, gA_aI, if_true, if_false, true_and, and_true, false_and, and_false, recS_1, recS_4, recS_5, recS_6, gN_rec, gA_sx, iIt0, iIt1] at q; unfold nA; omega) hW (lv_sub hl [0, 1, 2, 3, 4] rfl)
            exact hL59 61 0 0 _ (by rw [dAX_0]; exact hE1) _ _ ls (by omega) (by omega) (by omega) (by rw [sumX_0]) hW (lv_sub hl [0, 1, 2, 3, 4] rfl)
          · refine lv_aload_n hx hb dX6_would_36 rfl (lv_at hl 1 rfl) ?_
            refine r_gR C0 hW (show 10 < 11 ∧ 0 < bs 10 from ⟨by decide, by decide⟩) rfl rfl hiX6 (k := 2) (by decide) kf_X6_13 rfl rfl rfl dX6_would_37 ?_
            refine lv_iload_n hx hb dX6_would_40 rfl (lv_at hl 0 rfl) ?_
            refine lv_aload_n hx hb dX6_would_41 rfl (lv_at hl 1 rfl) ?_
            refine r_gR C0 hW (show 10 < 11 ∧ 0 < bs 10 from ⟨by decide, by decide⟩) rfl rfl hiX6 (k := 1) (by decide) kf_X6_7 rfl rfl rfl dX6_would_42 ?_
            refine lv_iload_n hx hb dX6_would_45 rfl (lv_at hl 0 rfl) ?_
            refine r_ild C0 hW (show 10 < 11 ∧ 1 < bs 10 from ⟨by decide, by decide⟩) rfl (n := 941) (by omega) (by omega) (by omega) dX6_would_46 (fun z10 (hz10 : z10 = gA (wv 10) 1 x3) rz10 => ?_)
            have rz10a := rz10.1
            have rz10b := rz10.2
            try simp (decide := true) only [hwv, hw1, up_s, gA_s, gA_sn, gN_sF, gA_sS, gN_sS, sA_st, sF_sF, sF_sS, sS_sS, arr_s, arr_n, arr_S, gA_aI, if_true, if_false, true_and, and_true, false_and, and_false, recS_1, recS_4, recS_5, recS_6, gN_rec, gA_sx, iIt0, iIt1] at hz10
            refine r_ist C0 hW (show 10 < 11 ∧ 2 < bs 10 from ⟨by decide, by decide⟩) (fun A => rfl) (n := 941) (v := iI z10) (by omega) (by omega) (by decide) dX6_would_47 (fun H1 locs1 hW => ?_)
            obtain ⟨w11, hw11⟩ : ∃ wq9 : gW, wq9 = up wv 10 (sA (wv 10) 2 x3 (iI z10)) := ⟨_, rfl⟩
            rw [← hw11] at hW
            refine r_iinc (lv' := [(3, .int (iI (x3 + 1))), (0, .ref (ad G 10 0)), (1, .int (iI d)), (2, .int (iI v))]) hx hb dX6_would_48 hl (k := 0) rfl (by decide) rfl (fun ls hl => ?_)
            refine lv_goto (tgt := 29) hx hb dX6_would_51 (by decide) ?_
            exact ih29 (x3 + 1) _ (by simp (decide := true) only [hw11, hwv, hw1, up_up, up_s, sA_st, arr_S, arr_s, sF_sS, sF_sF]; rw [selG_s _ _ (by omega), show iI z10 = ((w 10).1 1) x3 from by rw [hz10]; exact aI_i _ _]) _ _ ls (by omega) (by omega) (by omega) hW (lv_sub hl [0, 1, 2, 3] rfl)
      exact hL29 942 0 _ (by rw [selG_0 _ _ (by omega), sF_id]; exact hw1) _ _ ls (by omega) (by omega) (by omega) hW (lv_sub hl [0, 1, 2, 3] rfl)
    · subst e3
      refine r_if_ne (tgt := 27) hx hb ⟨by omega, by omega⟩ dX6_would_21 (by decide) (fun q => absurd q (by decide)) (fun _ => ?_)
      refine r_bipush hx hb dX6_would_24 (by decide) ?_
      exact r_iret C0 hW ⟨by omega, by omega⟩ (by first | exact Or.inl (⟨(by first | assumption | omega | trivial), (by first | omega | assumption | (simp only [id])), (by simp (decide := true) only [hw1, up_up, up_s, gA_s, gA_sn, gN_sF, gA_sS, gN_sS, sA_st, sF_sF, sF_sS, sS_sS, arr_s, arr_n, arr_S, gA_aI, if_true, if_false, true_and, and_true, false_and, and_false, recS_1, recS_4, recS_5, recS_6, gN_rec, gA_sx, iIt0, iIt1, id])⟩) | exact Or.inr (⟨(by first | assumption | omega | trivial), (by first | assumption | omega | trivial), (by rw [show d = y4 from by omega]; exact i59_2), (by rw [hwz, show u4 = 941 from by omega, show y4 = d from by omega])⟩)) dX6_would_26
  · subst e2
    refine r_if_eq (tgt := 24) hx hb ⟨by omega, by omega⟩ dX6_would_12 (by decide) (fun _ => ?_) (fun q => absurd q (by decide))
    refine r_bipush hx hb dX6_would_24 (by decide) ?_
    exact r_iret C0 hW ⟨by omega, by omega⟩ (by first | exact Or.inl (⟨(by first | assumption | omega | trivial), (by first | omega | assumption | (simp only [id])), (by simp (decide := true) only [hw1, up_up, up_s, gA_s, gA_sn, gN_sF, gA_sS, gN_sS, sA_st, sF_sF, sF_sS, sS_sS, arr_s, arr_n, arr_S, gA_aI, if_true, if_false, true_and, and_true, false_and, and_false, recS_1, recS_4, recS_5, recS_6, gN_rec, gA_sx, iIt0, iIt1, id])⟩) | exact Or.inr (⟨(by first | assumption | omega | trivial), (by first | assumption | omega | trivial), (by rw [show d = y4 from by omega]; exact i59_2), (by rw [hwz, show u4 = 941 from by omega, show y4 = d from by omega])⟩)) dX6_would_26
