theorem hdS_L_cell : yL_cell.cls ≠ "java/lang/invoke/MethodHandle" ∧ yL_cell.cls ≠ "java/lang/invoke/VarHandle" ∧ (parseMethodDescriptor yL_cell.desc).map (fun d => d.parameters.length) = some 2 := by decide +kernel
set_option maxHeartbeats 4000000 in
set_option maxRecDepth 100000 in
/-- a cell of the script, or what stands for it: an int -/
theorem c_L_cell (l : Launch) (G : gG) (w : gW) {b L : Nat} {xs : Nat → Int32} (hL : L ≤ 260) {k : Int} (h0 : 0 ≤ k) (h1 : k < 1000) : mX l G b L xs yL_cell (wU yL_cell cL_cell 2 (some .int)) (rmL 0 0) [.ref b, .int (iI k)] w (fun _ w1 => w1 = w) := by
  refine mX_of (by decide +kernel) (Nat.le_of_ble_eq_true rfl) (fun p e s m args below meth c ls C0 hX hbG hW hl => ?_)
  have hl : lv_has ls 2 [(0, .ref b), (1, .int (iI k))] := hl
  have hx := C0.hx
  have hb := C0.hb
  have rk : inR k := ⟨by omega, by omega⟩
  refine lv_iload_n hx hb dL_cell_0 rfl (lv_at hl 1 rfl) ?_
  refine lv_aload_n hx hb dL_cell_1 rfl (lv_at hl 0 rfl) ?_
  refine va_slen hx hb hX hX.lt (show ¬ G.2.2 ≤ b by omega) hW.2.2 dL_cell_2 ?_
  rw [iI_nI]
  refine r_icmp_ge (tgt := 12) hx hb rk ⟨by omega, by omega⟩ dL_cell_3 (by decide) (fun c1 => ?_) (fun c1 => ?_)
  · refine r_sipush hx hb dL_cell_12 (by decide) ?_
    refine lv_iload_n hx hb dL_cell_15 rfl (lv_at hl 1 rfl) ?_
    refine r_iconst hx hb dL_cell_16 ?_
    refine r_iadd hx hb dL_cell_17 ?_
    refine r_imul hx hb dL_cell_18 ?_
    refine lv_iload_n hx hb dL_cell_19 rfl (lv_at hl 1 rfl) ?_
    refine r_bipush hx hb dL_cell_20 (by decide) ?_
    refine r_iadd hx hb dL_cell_22 ?_
    refine r_imul hx hb dL_cell_23 ?_
    rw [← iI_o (iI (7919 * (k + 3) * (k + 11)))]
    exact r_iret C0 hW (inR_o _) rfl dL_cell_24
  · refine lv_aload_n hx hb dL_cell_6 rfl (lv_at hl 0 rfl) ?_
    refine lv_iload_n hx hb dL_cell_7 rfl (lv_at hl 1 rfl) ?_
    refine va_sld hx hb hX hX.lt (show ¬ G.2.2 ≤ b by omega) hW.2.2 (iI_in (n := L) h0 c1 (by omega)) dL_cell_8 ?_
    refine lv_goto (tgt := 24) hx hb dL_cell_9 (by decide) ?_
    rw [← iI_o (xs (iI k).toNatClampNeg)]
    exact r_iret C0 hW (inR_o _) rfl dL_cell_24
/-! what the answers say, for the law's check -/
theorem row2 {M : gM} {r z : Int} (h : z = rowF M r 2) : (lyi M r ∧ z = gA M 10 r) ∨ (¬ lyi M r ∧ z = -1) := by
  by_cases t : lyi M r
  · exact Or.inl ⟨t, by rw [h, rowF_l t]; rfl⟩
  · exact Or.inr ⟨t, by rw [h, rowF_n t]⟩
theorem row4 {M : gM} {r z : Int} (t : lyi M r) (h : z = rowF M r 4) : (z = 0 ∧ gA M 12 r = 0) ∨ (z = 1 ∧ ¬ gA M 12 r = 0) := by
  rw [rowF_l t] at h
  have h : z = if gA M 12 r = 0 then 0 else 1 := h
  by_cases q : gA M 12 r = 0
  · rw [if_pos q] at h; exact Or.inl ⟨h, q⟩
  · rw [if_neg q] at h; exact Or.inr ⟨h, q⟩
theorem row5 {M : gM} {r z : Int} (t : lyi M r) (h : z = rowF M r 5) : (z = 0 ∧ ¬ gA M 10 r ≤ 20) ∨ (z = 1 ∧ gA M 10 r ≤ 20) := by
  rw [rowF_l t] at h
  have h : z = @ite _ (pDr M r) (Classical.propDecidable _) 1 0 := h
  by_cases q : pDr M r
  · rw [@if_pos _ (Classical.propDecidable _) q] at h; exact Or.inr ⟨h, q.2⟩
  · rw [@if_neg _ (Classical.propDecidable _) q] at h; exact Or.inl ⟨h, fun u => q ⟨t, u⟩⟩
theorem plo3 {M : gM} {r z : Int} (h : z = ploF M r 3) : (z = 0 ∧ gA M 3 r = gA M 2 r) ∨ (z = 1 ∧ ¬ gA M 3 r = gA M 2 r) := by
  have h : z = if gA M 3 r = gA M 2 r then 0 else 1 := h
  by_cases q : gA M 3 r = gA M 2 r
  · rw [if_pos q] at h; exact Or.inl ⟨h, q⟩
  · rw [if_neg q] at h; exact Or.inr ⟨h, q⟩
theorem cv_why {w w1 : gW} {b0 b1 b2 b3 : Nat} {co pl z : Int} (h : po_X5_why w b0 b1 b2 b3 co pl z w1) (h0 : 0 ≤ co ∧ co ≤ 9) (h1 : 0 ≤ pl ∧ pl ≤ 19) : (0 ≤ z ∧ z ≤ 4) ∧ w = w1 := by
  rcases h with ⟨c, -, -⟩ | ⟨-, -, c, e⟩
  · omega
  · exact ⟨rsn_in c, e.symm⟩
theorem cv_d0 {w w1 : gW} {b0 b1 b2 b3 : Nat} {k z : Int} (h : po_X5_dispute w b0 b1 b2 b3 k 0 z w1) (h0 : 0 ≤ k) (h1 : k < gN (w 1) 14 5 - gN (w 1) 14 4) : z = gA (w 1) 15 (gN (w 1) 14 4 + k) ∧ w = w1 := by
  rcases h with ⟨c, -, -⟩ | ⟨-, -, c, -, -⟩ | ⟨-, -, c, e, ew⟩ | ⟨-, -, c, e, ew⟩ | ⟨-, -, c, e, ew⟩ | ⟨-, -, c, e, ew⟩ <;> first | omega | exact ⟨e, ew.symm⟩
theorem cv_d1 {w w1 : gW} {b0 b1 b2 b3 : Nat} {k z : Int} (h : po_X5_dispute w b0 b1 b2 b3 k 1 z w1) (h0 : 0 ≤ k) (h1 : k < gN (w 1) 14 5 - gN (w 1) 14 4) : z = gA (w 1) 16 (gN (w 1) 14 4 + k) ∧ w = w1 := by
  rcases h with ⟨c, -, -⟩ | ⟨-, -, c, -, -⟩ | ⟨-, -, c, e, ew⟩ | ⟨-, -, c, e, ew⟩ | ⟨-, -, c, e, ew⟩ | ⟨-, -, c, e, ew⟩ <;> first | omega | exact ⟨e, ew.symm⟩
theorem cv_d2 {w w1 : gW} {b0 b1 b2 b3 : Nat} {k z : Int} (h : po_X5_dispute w b0 b1 b2 b3 k 2 z w1) (h0 : 0 ≤ k) (h1 : k < gN (w 1) 14 5 - gN (w 1) 14 4) : z = gA (w 1) 17 (gN (w 1) 14 4 + k) ∧ w = w1 := by
  rcases h with ⟨c, -, -⟩ | ⟨-, -, c, -, -⟩ | ⟨-, -, c, e, ew⟩ | ⟨-, -, c, e, ew⟩ | ⟨-, -, c, e, ew⟩ | ⟨-, -, c, e, ew⟩ <;> first | omega | exact ⟨e, ew.symm⟩
theorem cv_dn {w w1 : gW} {b0 b1 b2 b3 : Nat} {k z : Int} (h : po_X5_dispute w b0 b1 b2 b3 k 0 z w1) (h0 : 0 ≤ k) (h1 : gN (w 1) 14 5 - gN (w 1) 14 4 ≤ k) : z = -5 ∧ w = w1 := by
  rcases h with ⟨c, -, -⟩ | ⟨-, -, c, e, ew⟩ | ⟨-, d, c, e, ew⟩ | ⟨-, d, c, e, ew⟩ | ⟨-, d, c, e, ew⟩ | ⟨-, d, c, e, ew⟩ <;> first | omega | exact ⟨e, ew.symm⟩
theorem sum_pOf {M : gM} (h : Inv M) : sumX (fun c => cntI (pOf M c) (gN M 7 6)) 10 = cntI (pLy M) (gN M 7 6) := by
  have n0 := h.1.1.1
  have e := sum_ownI (L := lyi M) (own := gA M 8) (x := gN M 7 6) n0 (fun r r0 r1 _ => h.2.1 r r0 r1)
  exact e.trans (cntI_cg n0 (fun r r0 r1 => ⟨fun t => t.2.2, fun t => ⟨r0, r1, t⟩⟩))
theorem cnt_lyi {M : gM} (h : Inv M) : cntI (lyi M) (gN M 7 6) = cntI (pLy M) (gN M 7 6) := cntI_cg h.1.1.1 (fun r r0 r1 => ⟨fun t => t.2.2, fun t => ⟨r0, r1, t⟩⟩)
theorem cnt_all : ∀ n : Nat, cntI (fun _ => True) n = n
  | 0 => rfl
  | n + 1 => by
    rw [show ((n + 1 : Nat) : Int) = (n : Int) + 1 by omega, cntI_t (by omega) trivial, cnt_all n]
theorem sum_pEq {M : gM} {k : Nat} (h : ∀ p : Int, 0 ≤ p → p ≤ 19 → 0 ≤ gA M k p ∧ gA M k p ≤ 9) : sumX (fun c => cntI (pEq M k c) 20) 10 = 20 := by
  have e := sum_own (L := fun _ => True) (own := gA M k) 20 (fun r r0 r1 _ => h r r0 (by omega))
  have e2 := cnt_all 20
  rw [show ((20 : Nat) : Int) = 20 from rfl] at e e2
  rw [e2] at e
  have e3 : sumX (fun c => cntI (pEq M k c) 20) 10 = sumX (fun c => cntI (fun r => True ∧ gA M k r = c) 20) 10 := sum_cg 10 (fun c _ _ => cnt_cg (p := pEq M k c) (q := fun r => True ∧ gA M k r = c) 20 (fun r _ _ => ⟨fun t => ⟨trivial, t⟩, fun t => t.2⟩))
  rw [e3]
  exact e
theorem sum_hr {M : gM} (h : Inv M) : 0 ≤ sumX (gA M 6) 10 ∧ sumX (gA M 6) 10 ≤ 4800 := by
  have hh := Inv_home h
  have h6 : sumX (gA M 6) 10 ≤ 40 * gN M 0 13 := h.2.2.2.2.2.1
  have e := sum_nn (f := gA M 6) 10 (fun r r0 r1 => (h.2.2.2.2.1 r r0 (by omega)).2.2)
  rw [show ((10 : Nat) : Int) = 10 from rfl] at e
  omega
/-- L_holds: its end -/
def po_L_holds (w : gW) (b0 : Nat) (b1 : Nat) (b2 : Nat) (b3 : Nat) : Int → gW → Prop := fun z w1 => z = 1 ∧ w1 = w
theorem hdS_L_holds : yL_holds.cls ≠ "java/lang/invoke/MethodHandle" ∧ yL_holds.cls ≠ "java/lang/invoke/VarHandle" ∧ (parseMethodDescriptor yL_holds.desc).map (fun d => d.parameters.length) = some 1 := by decide +kernel
set_option maxHeartbeats 4000000 in
set_option maxRecDepth 100000 in
theorem c_L_holds (l : Launch) (G : gG) (w : gW) {b0 : Nat} {b1 : Nat} {b2 : Nat} {b3 : Nat} (hO : okW w b0 b1 b2 b3) (hI : Inv (w 1)) : mI l G yL_holds (wU yL_holds cL_holds 10 (some .boolean)) (rmL 6 123) [.ref (ad G 0 0)] w (po_L_holds w b0 b1 b2 b3) := by
  refine mI_of (by decide +kernel) (Nat.le_of_ble_eq_true rfl) (fun p e s m args below meth c ls C0 hW hl => ?_)
  have hl : lv_has ls 10 [(0, .ref (ad G 0 0))] := hl
  have hx := C0.hx
  have hb := C0.hb
  obtain ⟨hp4, hh, hwfs, hs4, hl9⟩ := id hO
  have hwf := hwfs 1 ms_1
  have hn0 := hwf.1.1
  have hn1 := hwf.1.2
  have hd9 := hwf.2.1
  have hro := hwf.2.2.2.2.2.2.1
  refine r_iconst hx hb dL_holds_0 ?_
  refine lv_istore_n (lv' := [(1, .int (iI 0)), (0, .ref (ad G 0 0))]) hx hb dL_holds_1 rfl hl (by decide) rfl (fun ls hl => ?_)
  refine r_iconst hx hb dL_holds_2 ?_
  refine lv_istore_n (lv' := [(2, .int (iI 0)), (1, .int (iI 0)), (0, .ref (ad G 0 0))]) hx hb dL_holds_3 rfl hl (by decide) rfl (fun ls hl => ?_)
  refine r_iconst hx hb dL_holds_4 ?_
  refine lv_istore_n (lv' := [(3, .int (iI 0)), (2, .int (iI 0)), (1, .int (iI 0)), (0, .ref (ad G 0 0))]) hx hb dL_holds_5 rfl hl (by decide) rfl (fun ls hl => ?_)
  refine r_iconst hx hb dL_holds_6 ?_
  refine lv_istore (lv' := [(4, .int (iI 0)), (3, .int (iI 0)), (2, .int (iI 0)), (1, .int (iI 0)), (0, .ref (ad G 0 0))]) hx hb dL_holds_7 hl (by decide) rfl (fun ls hl => ?_)
  have hL9 : ∀ (n : Nat) (a1 : Int) (a2 : Int) (a3 : Int) (x4 : Int) (H0 : Heap) (locs0 : List Loc) (ls : Array Slot) (hm : gN (w 1) 7 6 - x4 < (n : Int)) (i9_0 : 0 ≤ x4) (i9_1 : x4 ≤ gN (w 1) 7 6) (i9_2 : a1 = cntI (lyi (w 1)) x4) (i9_3 : a2 = cntI (pSt (w 1)) x4) (i9_4 : a3 = cntI (pDr (w 1)) x4) (hW : wo G w s H0 locs0) (hl : lv_has ls 10 [(4, .int (iI x4)), (3, .int (iI a3)), (2, .int (iI a2)), (1, .int (iI a1)), (0, .ref (ad G 0 0))]), W p l e (rmL 6 123) s m args below meth c H0 locs0 0 0 (QI G (po_L_holds w b0 b1 b2 b3) below args s) (F0 m 9 ls []) := by
    intro n
    induction n with
    | zero =>
      intro a1 a2 a3 x4 H0 locs0 ls hm i9_0 i9_1 i9_2 i9_3 i9_4 hW hl
      exact absurd hm (by omega)
    | succ n ih9 =>
      intro a1 a2 a3 x4 H0 locs0 ls hm i9_0 i9_1 i9_2 i9_3 i9_4 hW hl
      refine lv_iload hx hb dL_holds_9 (lv_at hl 0 rfl) ?_
      refine lv_aload_n hx hb dL_holds_11 rfl (lv_at hl 4 rfl) ?_
      refine r_iconst hx hb dL_holds_12 ?_
      refine k_Vi (j := 0) (k0 := 0) C0 hW (c_X5_count l G w (hO) 3 ⟨by omega, by omega⟩) km_L_12 ki_X5_count ke_X5_count kn_X5 kc_X5_count rfl hdV_X5_count ⟨by decide, by decide⟩ (show 0 < 11 ∧ 0 < bs 0 from ⟨by decide, by decide⟩) rfl rfl rfl hl.1 rfl (Nat.le_of_ble_eq_true rfl) dL_holds_13 (fun z1 w1 H1 locs1 rz1 hp1 hW => ?_)
      have hv1 := cv_cnt hp1 rz1 (by omega)
      clear hp1
      obtain ⟨hp1, hq1⟩ := hv1
      subst hq1
      replace hp1 : z1 = gN (w 1) 7 6 := hp1
      have rz1a := rz1.1
      have rz1b := rz1.2
      refine r_icmp_ge (tgt := 126) hx hb ⟨by omega, by omega⟩ rz1 dL_holds_16 (by decide) (fun c2 => ?_) (fun c2 => ?_)
      · have ea1 : a1 = cntI (lyi (w 1)) (gN (w 1) 7 6) := by rw [show gN (w 1) 7 6 = x4 by omega]; exact i9_2
        have ea2 : a2 = cntI (pSt (w 1)) (gN (w 1) 7 6) := by rw [show gN (w 1) 7 6 = x4 by omega]; exact i9_3
        have ea3 : a3 = cntI (pDr (w 1)) (gN (w 1) 7 6) := by rw [show gN (w 1) 7 6 = x4 by omega]; exact i9_4
        have hb1 := cntI_le (lyi (w 1)) hn0
        have hb2 := cntI_le (pSt (w 1)) hn0
        have hb3 := cntI_le (pDr (w 1)) hn0
        refine r_iconst hx hb dL_holds_126 ?_
        refine lv_istore (lv' := [(4, .int (iI 0)), (3, .int (iI a3)), (2, .int (iI a2)), (1, .int (iI a1)), (0, .ref (ad G 0 0))]) hx hb dL_holds_127 hl (by decide) rfl (fun ls hl => ?_)
        refine r_iconst hx hb dL_holds_129 ?_
        refine lv_istore (lv' := [(5, .int (iI 0)), (4, .int (iI 0)), (3, .int (iI a3)), (2, .int (iI a2)), (1, .int (iI a1)), (0, .ref (ad G 0 0))]) hx hb dL_holds_130 hl (by decide) rfl (fun ls hl => ?_)
        refine r_iconst hx hb dL_holds_132 ?_
        refine lv_istore (lv' := [(6, .int (iI 0)), (5, .int (iI 0)), (4, .int (iI 0)), (3, .int (iI a3)), (2, .int (iI a2)), (1, .int (iI a1)), (0, .ref (ad G 0 0))]) hx hb dL_holds_133 hl (by decide) rfl (fun ls hl => ?_)
        refine r_iconst hx hb dL_holds_135 ?_
        refine lv_istore (lv' := [(7, .int (iI 0)), (6, .int (iI 0)), (5, .int (iI 0)), (4, .int (iI 0)), (3, .int (iI a3)), (2, .int (iI a2)), (1, .int (iI a1)), (0, .ref (ad G 0 0))]) hx hb dL_holds_136 hl (by decide) rfl (fun ls hl => ?_)
        refine r_iconst hx hb dL_holds_138 ?_
        refine lv_istore (lv' := [(8, .int (iI 0)), (7, .int (iI 0)), (6, .int (iI 0)), (5, .int (iI 0)), (4, .int (iI 0)), (3, .int (iI a3)), (2, .int (iI a2)), (1, .int (iI a1)), (0, .ref (ad G 0 0))]) hx hb dL_holds_139 hl (by decide) rfl (fun ls hl => ?_)
        have hL141 : ∀ (n : Nat) (r4 : Int) (r5 : Int) (r6 : Int) (r7 : Int) (k8 : Int) (H0 : Heap) (locs0 : List Loc) (ls : Array Slot) (hm : 10 - k8 < (n : Int)) (i141_0 : 0 ≤ k8) (i141_1 : k8 ≤ 10) (i141_2 : r4 = sumX (fun c => cntI (pOf (w 1) c) (gN (w 1) 7 6)) k8) (i141_3 : r6 = sumX (fun c => cntI (pEq (w 1) 2 c) 20) k8) (i141_4 : r5 = sumX (fun c => cntI (pEq (w 1) 3 c) 20) k8) (i141_5 : r7 = sumX (gA (w 1) 6) k8) (hW : wo G w s H0 locs0) (hl : lv_has ls 10 [(8, .int (iI k8)), (7, .int (iI r7)), (6, .int (iI r6)), (5, .int (iI r5)), (4, .int (iI r4)), (3, .int (iI a3)), (2, .int (iI a2)), (1, .int (iI a1)), (0, .ref (ad G 0 0))]), W p l e (rmL 6 123) s m args below meth c H0 locs0 0 0 (QI G (po_L_holds w b0 b1 b2 b3) below args s) (F0 m 141 ls []) := by
          intro n
          induction n with
          | zero =>
            intro r4 r5 r6 r7 k8 H0 locs0 ls hm i141_0 i141_1 i141_2 i141_3 i141_4 i141_5 hW hl
            exact absurd hm (by omega)
          | succ n ih141 =>
            intro r4 r5 r6 r7 k8 H0 locs0 ls hm i141_0 i141_1 i141_2 i141_3 i141_4 i141_5 hW hl
            refine lv_iload hx hb dL_holds_141 (lv_at hl 0 rfl) ?_
            refine r_bipush hx hb dL_holds_143 (by decide) ?_
            refine r_icmp_ge (tgt := 244) hx hb ⟨by omega, by omega⟩ ⟨by omega, by omega⟩ dL_holds_145 (by decide) (fun c3 => ?_) (fun c3 => ?_)
            · have e10 : k8 = 10 := by omega
              have er4 := i141_2
              have er6 := i141_3
              have er5 := i141_4
              have er7 := i141_5
              rw [e10] at er4 er6 er5 er7
              rw [sum_pOf hI] at er4
              rw [sum_pEq (fun p p0 p1 => (hI.2.2.2.1 p p0 p1).2.1)] at er6
              rw [sum_pEq (fun p p0 p1 => (hI.2.2.2.1 p p0 p1).2.2)] at er5
              have hsh := sum_hr hI
              have hly9 := cnt_lyi hI
              refine r_iconst hx hb dL_holds_244 ?_
              refine lv_istore (lv' := [(8, .int (iI 0)), (7, .int (iI r7)), (6, .int (iI r6)), (5, .int (iI r5)), (4, .int (iI r4)), (3, .int (iI a3)), (2, .int (iI a2)), (1, .int (iI a1)), (0, .ref (ad G 0 0))]) hx hb dL_holds_245 hl (by decide) rfl (fun ls hl => ?_)
              have hL247 : ∀ (n : Nat) (p8 : Int) (H0 : Heap) (locs0 : List Loc) (ls : Array Slot) (hm : 20 - p8 < (n : Int)) (i247_0 : 0 ≤ p8) (i247_1 : p8 ≤ 20) (hW : wo G w s H0 locs0) (hl : lv_has ls 10 [(8, .int (iI p8)), (7, .int (iI r7)), (6, .int (iI r6)), (5, .int (iI r5)), (4, .int (iI r4)), (3, .int (iI a3)), (2, .int (iI a2)), (1, .int (iI a1)), (0, .ref (ad G 0 0))]), W p l e (rmL 6 123) s m args below meth c H0 locs0 0 0 (QI G (po_L_holds w b0 b1 b2 b3) below args s) (F0 m 247 ls []) := by
                intro n
                induction n with
                | zero =>
                  intro p8 H0 locs0 ls hm i247_0 i247_1 hW hl
                  exact absurd hm (by omega)
                | succ n ih247 =>
                  intro p8 H0 locs0 ls hm i247_0 i247_1 hW hl
                  refine lv_iload hx hb dL_holds_247 (lv_at hl 0 rfl) ?_
                  refine r_bipush hx hb dL_holds_249 (by decide) ?_
                  refine r_icmp_ge (tgt := 348) hx hb ⟨by omega, by omega⟩ ⟨by omega, by omega⟩ dL_holds_251 (by decide) (fun c4 => ?_) (fun c4 => ?_)
                  · refine lv_aload_n hx hb dL_holds_348 rfl (lv_at hl 8 rfl) ?_
                    refine r_bipush hx hb dL_holds_349 (by decide) ?_
                    refine k_Vi (j := 0) (k0 := 0) C0 hW (c_X5_count l G w (hO) 9 ⟨by omega, by omega⟩) km_L_12 ki_X5_count ke_X5_count kn_X5 kc_X5_count rfl hdV_X5_count ⟨by decide, by decide⟩ (show 0 < 11 ∧ 0 < bs 0 from ⟨by decide, by decide⟩) rfl rfl rfl hl.1 rfl (Nat.le_of_ble_eq_true rfl) dL_holds_351 (fun z5 w5 H1 locs1 rz5 hp5 hW => ?_)
                    have hv5 := cv_cnt hp5 rz5 (by omega)
                    clear hp5
                    obtain ⟨hp5, hq5⟩ := hv5
                    subst hq5
                    replace hp5 : z5 = gN (w 1) 14 5 - gN (w 1) 14 4 := hp5
                    have rz5a := rz5.1
                    have rz5b := rz5.2
                    refine lv_istore (lv' := [(8, .int (iI z5)), (7, .int (iI r7)), (6, .int (iI r6)), (5, .int (iI r5)), (4, .int (iI r4)), (3, .int (iI a3)), (2, .int (iI a2)), (1, .int (iI a1)), (0, .ref (ad G 0 0))]) hx hb dL_holds_354 hl (by decide) rfl (fun ls hl => ?_)
                    refine r_iconst hx hb dL_holds_356 ?_
                    refine lv_istore (lv' := [(9, .int (iI 0)), (8, .int (iI z5)), (7, .int (iI r7)), (6, .int (iI r6)), (5, .int (iI r5)), (4, .int (iI r4)), (3, .int (iI a3)), (2, .int (iI a2)), (1, .int (iI a1)), (0, .ref (ad G 0 0))]) hx hb dL_holds_357 hl (by decide) rfl (fun ls hl => ?_)
                    have hL359 : ∀ (n : Nat) (d9 : Int) (H0 : Heap) (locs0 : List Loc) (ls : Array Slot) (hm : gN (w 1) 14 5 - gN (w 1) 14 4 - d9 < (n : Int)) (i359_0 : 0 ≤ d9) (i359_1 : d9 ≤ gN (w 1) 14 5 - gN (w 1) 14 4) (hW : wo G w s H0 locs0) (hl : lv_has ls 10 [(9, .int (iI d9)), (8, .int (iI z5)), (7, .int (iI r7)), (6, .int (iI r6)), (5, .int (iI r5)), (4, .int (iI r4)), (3, .int (iI a3)), (2, .int (iI a2)), (1, .int (iI a1)), (0, .ref (ad G 0 0))]), W p l e (rmL 6 123) s m args below meth c H0 locs0 0 0 (QI G (po_L_holds w b0 b1 b2 b3) below args s) (F0 m 359 ls []) := by
                      intro n
                      induction n with
                      | zero =>
                        intro d9 H0 locs0 ls hm i359_0 i359_1 hW hl
                        exact absurd hm (by omega)
                      | succ n ih359 =>
                        intro d9 H0 locs0 ls hm i359_0 i359_1 hW hl
                        refine lv_iload hx hb dL_holds_359 (lv_at hl 0 rfl) ?_
                        refine lv_iload hx hb dL_holds_361 (lv_at hl 1 rfl) ?_
                        refine r_icmp_ge (tgt := 415) hx hb ⟨by omega, by omega⟩ rz5 dL_holds_363 (by decide) (fun c6 => ?_) (fun c6 => ?_)
                        · have hL9 : sumX (gA (w 1) 1) 20 + gN (w 1) 7 6 = 120 := hI.2.2.2.2.2.2.1
                          have hN9 : 0 ≤ gN (w 1) 0 13 ∧ cntI (pLy (w 1)) (gN (w 1) 7 6) + gN (w 1) 0 13 ≤ gN (w 1) 7 6 := hI.2.2.2.2.2.2.2.1
                          refine lv_iload_n hx hb dL_holds_415 rfl (lv_at hl 8 rfl) ?_
                          refine lv_aload_n hx hb dL_holds_416 rfl (lv_at hl 9 rfl) ?_
                          refine r_iconst hx hb dL_holds_417 ?_
                          refine k_Vi (j := 0) (k0 := 0) C0 hW (c_X5_count l G w (hO) 2 ⟨by omega, by omega⟩) km_L_12 ki_X5_count ke_X5_count kn_X5 kc_X5_count rfl hdV_X5_count ⟨by decide, by decide⟩ (show 0 < 11 ∧ 0 < bs 0 from ⟨by decide, by decide⟩) rfl rfl rfl hl.1 rfl (Nat.le_of_ble_eq_true rfl) dL_holds_418 (fun z7 w7 H1 locs1 rz7 hp7 hW => ?_)
                          have hv7 := cv_cnt hp7 rz7 (by omega)
                          clear hp7
                          obtain ⟨hp7, hq7⟩ := hv7
                          subst hq7
                          replace hp7 : z7 = cntI (pLy (w 1)) (gN (w 1) 7 6) := hp7
                          have rz7a := rz7.1
                          have rz7b := rz7.2
                          refine r_icmp_ne (tgt := 477) hx hb ⟨by omega, by omega⟩ rz7 dL_holds_421 (by decide) (fun c8 => ?_) (fun c8 => ?_)
                          · exfalso; omega
                          · refine lv_iload hx hb dL_holds_424 (lv_at hl 5 rfl) ?_
                            refine lv_iload_n hx hb dL_holds_426 rfl (lv_at hl 8 rfl) ?_
                            refine r_icmp_ne (tgt := 477) hx hb ⟨by omega, by omega⟩ ⟨by omega, by omega⟩ dL_holds_427 (by decide) (fun c9 => ?_) (fun c9 => ?_)
                            · exfalso; omega
                            · refine lv_iload_n hx hb dL_holds_430 rfl (lv_at hl 7 rfl) ?_
                              refine lv_aload_n hx hb dL_holds_431 rfl (lv_at hl 9 rfl) ?_
                              refine r_iconst hx hb dL_holds_432 ?_
                              refine k_Vi (j := 0) (k0 := 0) C0 hW (c_X5_count l G w (hO) 4 ⟨by omega, by omega⟩) km_L_12 ki_X5_count ke_X5_count kn_X5 kc_X5_count rfl hdV_X5_count ⟨by decide, by decide⟩ (show 0 < 11 ∧ 0 < bs 0 from ⟨by decide, by decide⟩) rfl rfl rfl hl.1 rfl (Nat.le_of_ble_eq_true rfl) dL_holds_433 (fun z10 w10 H1 locs1 rz10 hp10 hW => ?_)
                              have hv10 := cv_cnt hp10 rz10 (by omega)
                              clear hp10
                              obtain ⟨hp10, hq10⟩ := hv10
                              subst hq10
                              replace hp10 : z10 = cntI (pSt (w 1)) (gN (w 1) 7 6) := hp10
                              have rz10a := rz10.1
                              have rz10b := rz10.2
                              refine r_icmp_ne (tgt := 477) hx hb ⟨by omega, by omega⟩ rz10 dL_holds_436 (by decide) (fun c11 => ?_) (fun c11 => ?_)
                              · exfalso; omega
                              · refine lv_iload_n hx hb dL_holds_439 rfl (lv_at hl 6 rfl) ?_
                                refine lv_aload_n hx hb dL_holds_440 rfl (lv_at hl 9 rfl) ?_
                                refine r_iconst hx hb dL_holds_441 ?_
                                refine k_Vi (j := 0) (k0 := 0) C0 hW (c_X5_count l G w (hO) 5 ⟨by omega, by omega⟩) km_L_12 ki_X5_count ke_X5_count kn_X5 kc_X5_count rfl hdV_X5_count ⟨by decide, by decide⟩ (show 0 < 11 ∧ 0 < bs 0 from ⟨by decide, by decide⟩) rfl rfl rfl hl.1 rfl (Nat.le_of_ble_eq_true rfl) dL_holds_442 (fun z12 w12 H1 locs1 rz12 hp12 hW => ?_)
                                have hv12 := cv_cnt hp12 rz12 (by omega)
                                clear hp12
                                obtain ⟨hp12, hq12⟩ := hv12
                                subst hq12
                                replace hp12 : z12 = cntI (pDr (w 1)) (gN (w 1) 7 6) := hp12
                                have rz12a := rz12.1
                                have rz12b := rz12.2
                                refine r_icmp_ne (tgt := 477) hx hb ⟨by omega, by omega⟩ rz12 dL_holds_445 (by decide) (fun c13 => ?_) (fun c13 => ?_)
                                · exfalso; omega
                                · refine lv_iload hx hb dL_holds_448 (lv_at hl 3 rfl) ?_
                                  refine r_bipush hx hb dL_holds_450 (by decide) ?_
                                  refine r_icmp_ne (tgt := 477) hx hb ⟨by omega, by omega⟩ ⟨by omega, by omega⟩ dL_holds_452 (by decide) (fun c14 => ?_) (fun c14 => ?_)
                                  · exfalso; omega
                                  · refine lv_iload hx hb dL_holds_455 (lv_at hl 4 rfl) ?_
                                    refine r_bipush hx hb dL_holds_457 (by decide) ?_
                                    refine r_icmp_ne (tgt := 477) hx hb ⟨by omega, by omega⟩ ⟨by omega, by omega⟩ dL_holds_459 (by decide) (fun c15 => ?_) (fun c15 => ?_)
                                    · exfalso; omega
                                    · refine lv_iload hx hb dL_holds_462 (lv_at hl 2 rfl) ?_
                                      refine lv_aload_n hx hb dL_holds_464 rfl (lv_at hl 9 rfl) ?_
                                      refine r_bipush hx hb dL_holds_465 (by decide) ?_
                                      refine k_Vi (j := 0) (k0 := 0) C0 hW (c_X5_count l G w (hO) 7 ⟨by omega, by omega⟩) km_L_12 ki_X5_count ke_X5_count kn_X5 kc_X5_count rfl hdV_X5_count ⟨by decide, by decide⟩ (show 0 < 11 ∧ 0 < bs 0 from ⟨by decide, by decide⟩) rfl rfl rfl hl.1 rfl (Nat.le_of_ble_eq_true rfl) dL_holds_467 (fun z16 w16 H1 locs1 rz16 hp16 hW => ?_)
                                      have hv16 := cv_count hp16 (by omega)
                                      clear hp16
                                      obtain ⟨hp16, hq16⟩ := hv16
                                      subst hq16
                                      replace hp16 : z16 = sumX (gA (w 1) 6) 10 := (iI_eq rz16 ⟨by omega, by omega⟩).1 hp16
                                      have rz16a := rz16.1
                                      have rz16b := rz16.2
                                      refine r_icmp_ne (tgt := 477) hx hb ⟨by omega, by omega⟩ rz16 dL_holds_470 (by decide) (fun c17 => ?_) (fun c17 => ?_)
                                      · exfalso; omega
                                      · refine r_iconst hx hb dL_holds_473 ?_
                                        refine lv_goto (tgt := 478) hx hb dL_holds_474 (by decide) ?_
                                        refine lv_istore (lv' := [(9, .int (iI 1)), (8, .int (iI z5)), (7, .int (iI r7)), (6, .int (iI r6)), (5, .int (iI r5)), (4, .int (iI r4)), (3, .int (iI a3)), (2, .int (iI a2)), (1, .int (iI a1)), (0, .ref (ad G 0 0))]) hx hb dL_holds_478 hl (by decide) rfl (fun ls hl => ?_)
                                        refine lv_iload hx hb dL_holds_480 (lv_at hl 0 rfl) ?_
                                        refine r_if_eq (tgt := 562) hx hb ⟨by omega, by omega⟩ dL_holds_482 (by decide) (fun q => absurd q (by decide)) (fun _ => ?_)
                                        refine lv_aload_n hx hb dL_holds_485 rfl (lv_at hl 9 rfl) ?_
                                        refine r_bipush hx hb dL_holds_486 (by decide) ?_
                                        refine k_Vi (j := 0) (k0 := 0) C0 hW (c_X5_count l G w (hO) 8 ⟨by omega, by omega⟩) km_L_12 ki_X5_count ke_X5_count kn_X5 kc_X5_count rfl hdV_X5_count ⟨by decide, by decide⟩ (show 0 < 11 ∧ 0 < bs 0 from ⟨by decide, by decide⟩) rfl rfl rfl hl.1 rfl (Nat.le_of_ble_eq_true rfl) dL_holds_488 (fun z18 w18 H1 locs1 rz18 hp18 hW => ?_)
                                        have hv18 := cv_count hp18 (by omega)
                                        clear hp18
                                        obtain ⟨hp18, hq18⟩ := hv18
                                        subst hq18
                                        replace hp18 : z18 = sumX (gA (w 1) 1) 20 := (iI_eq rz18 ⟨by omega, by omega⟩).1 hp18
                                        have rz18a := rz18.1
                                        have rz18b := rz18.2
                                        refine lv_aload_n hx hb dL_holds_491 rfl (lv_at hl 9 rfl) ?_
                                        refine r_iconst hx hb dL_holds_492 ?_
                                        refine k_Vi (j := 0) (k0 := 0) C0 hW (c_X5_count l G w (hO) 3 ⟨by omega, by omega⟩) km_L_12 ki_X5_count ke_X5_count kn_X5 kc_X5_count rfl hdV_X5_count ⟨by decide, by decide⟩ (show 0 < 11 ∧ 0 < bs 0 from ⟨by decide, by decide⟩) rfl rfl rfl hl.1 rfl (Nat.le_of_ble_eq_true rfl) dL_holds_493 (fun z19 w19 H1 locs1 rz19 hp19 hW => ?_)
                                        have hv19 := cv_cnt hp19 rz19 (by omega)
                                        clear hp19
                                        obtain ⟨hp19, hq19⟩ := hv19
                                        subst hq19
                                        replace hp19 : z19 = gN (w 1) 7 6 := hp19
                                        have rz19a := rz19.1
                                        have rz19b := rz19.2
                                        refine r_iadd hx hb dL_holds_496 ?_
                                        refine r_bipush hx hb dL_holds_497 (by decide) ?_
                                        refine r_icmp_ne (tgt := 562) hx hb ⟨by omega, by omega⟩ ⟨by omega, by omega⟩ dL_holds_499 (by decide) (fun c20 => ?_) (fun c20 => ?_)
                                        · exfalso; omega
                                        · refine lv_aload_n hx hb dL_holds_502 rfl (lv_at hl 9 rfl) ?_
                                          refine r_iconst hx hb dL_holds_503 ?_
                                          refine k_Vi (j := 0) (k0 := 0) C0 hW (c_X5_count l G w (hO) 2 ⟨by omega, by omega⟩) km_L_12 ki_X5_count ke_X5_count kn_X5 kc_X5_count rfl hdV_X5_count ⟨by decide, by decide⟩ (show 0 < 11 ∧ 0 < bs 0 from ⟨by decide, by decide⟩) rfl rfl rfl hl.1 rfl (Nat.le_of_ble_eq_true rfl) dL_holds_504 (fun z21 w21 H1 locs1 rz21 hp21 hW => ?_)
                                          have hv21 := cv_cnt hp21 rz21 (by omega)
                                          clear hp21
                                          obtain ⟨hp21, hq21⟩ := hv21
                                          subst hq21
                                          replace hp21 : z21 = cntI (pLy (w 1)) (gN (w 1) 7 6) := hp21
                                          have rz21a := rz21.1
                                          have rz21b := rz21.2
                                          refine lv_aload_n hx hb dL_holds_507 rfl (lv_at hl 9 rfl) ?_
                                          refine r_bipush hx hb dL_holds_508 (by decide) ?_
                                          refine k_Vi (j := 0) (k0 := 0) C0 hW (c_X5_count l G w (hO) 6 ⟨by omega, by omega⟩) km_L_12 ki_X5_count ke_X5_count kn_X5 kc_X5_count rfl hdV_X5_count ⟨by decide, by decide⟩ (show 0 < 11 ∧ 0 < bs 0 from ⟨by decide, by decide⟩) rfl rfl rfl hl.1 rfl (Nat.le_of_ble_eq_true rfl) dL_holds_510 (fun z22 w22 H1 locs1 rz22 hp22 hW => ?_)
                                          have hv22 := cv_cnt hp22 rz22 (by omega)
                                          clear hp22
                                          obtain ⟨hp22, hq22⟩ := hv22
                                          subst hq22
                                          replace hp22 : z22 = gN (w 1) 0 13 := hp22
                                          have rz22a := rz22.1
                                          have rz22b := rz22.2
                                          refine r_iadd hx hb dL_holds_513 ?_
                                          refine lv_aload_n hx hb dL_holds_514 rfl (lv_at hl 9 rfl) ?_
                                          refine r_iconst hx hb dL_holds_515 ?_
                                          refine k_Vi (j := 0) (k0 := 0) C0 hW (c_X5_count l G w (hO) 3 ⟨by omega, by omega⟩) km_L_12 ki_X5_count ke_X5_count kn_X5 kc_X5_count rfl hdV_X5_count ⟨by decide, by decide⟩ (show 0 < 11 ∧ 0 < bs 0 from ⟨by decide, by decide⟩) rfl rfl rfl hl.1 rfl (Nat.le_of_ble_eq_true rfl) dL_holds_516 (fun z23 w23 H1 locs1 rz23 hp23 hW => ?_)
                                          have hv23 := cv_cnt hp23 rz23 (by omega)
                                          clear hp23
                                          obtain ⟨hp23, hq23⟩ := hv23
                                          subst hq23
                                          replace hp23 : z23 = gN (w 1) 7 6 := hp23
                                          have rz23a := rz23.1
                                          have rz23b := rz23.2
                                          refine r_icmp_gt (tgt := 562) hx hb ⟨by omega, by omega⟩ rz23 dL_holds_519 (by decide) (fun c24 => ?_) (fun c24 => ?_)
                                          · exfalso; omega
                                          · refine lv_aload_n hx hb dL_holds_522 rfl (lv_at hl 9 rfl) ?_
                                            refine r_bipush hx hb dL_holds_523 (by decide) ?_
                                            refine k_Vi (j := 0) (k0 := 0) C0 hW (c_X5_count l G w (hO) 10 ⟨by omega, by omega⟩) km_L_12 ki_X5_count ke_X5_count kn_X5 kc_X5_count rfl hdV_X5_count ⟨by decide, by decide⟩ (show 0 < 11 ∧ 0 < bs 0 from ⟨by decide, by decide⟩) rfl rfl rfl hl.1 rfl (Nat.le_of_ble_eq_true rfl) dL_holds_525 (fun z25 w25 H1 locs1 rz25 hp25 hW => ?_)
                                            have hv25 := cv_cnt hp25 rz25 (by omega)
                                            clear hp25
                                            obtain ⟨hp25, hq25⟩ := hv25
                                            subst hq25
                                            replace hp25 : z25 = gN (w 1) 14 5 := hp25
                                            have rz25a := rz25.1
                                            have rz25b := rz25.2
                                            refine lv_iload hx hb dL_holds_528 (lv_at hl 1 rfl) ?_
                                            refine r_icmp_lt (tgt := 562) hx hb rz25 rz5 dL_holds_530 (by decide) (fun c26 => ?_) (fun c26 => ?_)
                                            · exfalso; omega
                                            · refine lv_aload_n hx hb dL_holds_533 rfl (lv_at hl 9 rfl) ?_
                                              refine lv_iload hx hb dL_holds_534 (lv_at hl 1 rfl) ?_
                                              refine r_iconst hx hb dL_holds_536 ?_
                                              refine k_Vi (j := 0) (k0 := 0) C0 hW (c_X5_dispute l G w (hO) z5 0 rz5 ⟨by omega, by omega⟩) km_L_83 ki_X5_dispute ke_X5_dispute kn_X5 kc_X5_dispute rfl hdV_X5_dispute ⟨by decide, by decide⟩ (show 0 < 11 ∧ 0 < bs 0 from ⟨by decide, by decide⟩) rfl rfl rfl hl.1 rfl (Nat.le_of_ble_eq_true rfl) dL_holds_537 (fun z27 w27 H1 locs1 rz27 hp27 hW => ?_)
                                              have hv27 := cv_dn hp27 (by omega) (by omega)
                                              clear hp27
                                              obtain ⟨hp27, hq27⟩ := hv27
                                              subst hq27
                                              have rz27a := rz27.1
                                              have rz27b := rz27.2
                                              refine r_bipush hx hb dL_holds_540 (by decide) ?_
                                              refine r_icmp_ne (tgt := 562) hx hb rz27 ⟨by omega, by omega⟩ dL_holds_542 (by decide) (fun c28 => ?_) (fun c28 => ?_)
                                              · exfalso; omega
                                              · refine lv_aload_n hx hb dL_holds_545 rfl (lv_at hl 9 rfl) ?_
                                                refine r_iconst hx hb dL_holds_546 ?_
                                                refine k_Vi (j := 0) (k0 := 0) C0 hW (c_X5_cart l G w (hO) 0 ⟨by omega, by omega⟩) km_L_28 ki_X5_cart ke_X5_cart kn_X5 kc_X5_cart rfl hdV_X5_cart ⟨by decide, by decide⟩ (show 0 < 11 ∧ 0 < bs 0 from ⟨by decide, by decide⟩) rfl rfl rfl hl.1 rfl (Nat.le_of_ble_eq_true rfl) dL_holds_547 (fun z29 w29 H1 locs1 rz29 hp29 hW => ?_)
                                                have hv29 := cv_cart hp29 (by omega)
                                                clear hp29
                                                obtain ⟨hp29, hq29⟩ := hv29
                                                subst hq29
                                                replace hp29 : z29 = (gN (w 1) 0 10 + 0 * 5) % 10 := hp29
                                                have rz29a := rz29.1
                                                have rz29b := rz29.2
                                                refine lv_aload_n hx hb dL_holds_550 rfl (lv_at hl 9 rfl) ?_
                                                refine r_iconst hx hb dL_holds_551 ?_
                                                refine k_Vi (j := 0) (k0 := 0) C0 hW (c_X5_cart l G w (hO) 1 ⟨by omega, by omega⟩) km_L_28 ki_X5_cart ke_X5_cart kn_X5 kc_X5_cart rfl hdV_X5_cart ⟨by decide, by decide⟩ (show 0 < 11 ∧ 0 < bs 0 from ⟨by decide, by decide⟩) rfl rfl rfl hl.1 rfl (Nat.le_of_ble_eq_true rfl) dL_holds_552 (fun z30 w30 H1 locs1 rz30 hp30 hW => ?_)
                                                have hv30 := cv_cart hp30 (by omega)
                                                clear hp30
                                                obtain ⟨hp30, hq30⟩ := hv30
                                                subst hq30
                                                replace hp30 : z30 = (gN (w 1) 0 10 + 1 * 5) % 10 := hp30
                                                have rz30a := rz30.1
                                                have rz30b := rz30.2
                                                refine r_icmp_eq (tgt := 562) hx hb rz29 rz30 dL_holds_555 (by decide) (fun c31 => ?_) (fun c31 => ?_)
                                                · exfalso; omega
                                                · refine r_iconst hx hb dL_holds_558 ?_
                                                  refine lv_goto (tgt := 563) hx hb dL_holds_559 (by decide) ?_
                                                  exact r_zret C0 hW (by first | exact Or.inl rfl | exact Or.inr rfl | omega) (⟨rfl, rfl⟩) dL_holds_563
                        · have hD9 := hI.2.2.2.2.2.2.2.2.1 (gN (w 1) 14 4 + d9) (by omega) (by omega)
                          refine lv_aload_n hx hb dL_holds_366 rfl (lv_at hl 9 rfl) ?_
                          refine lv_iload hx hb dL_holds_367 (lv_at hl 0 rfl) ?_
                          refine r_iconst hx hb dL_holds_369 ?_
                          refine k_Vi (j := 0) (k0 := 0) C0 hW (c_X5_dispute l G w (hO) d9 0 ⟨by omega, by omega⟩ ⟨by omega, by omega⟩) km_L_83 ki_X5_dispute ke_X5_dispute kn_X5 kc_X5_dispute rfl hdV_X5_dispute ⟨by decide, by decide⟩ (show 0 < 11 ∧ 0 < bs 0 from ⟨by decide, by decide⟩) rfl rfl rfl hl.1 rfl (Nat.le_of_ble_eq_true rfl) dL_holds_370 (fun z32 w32 H1 locs1 rz32 hp32 hW => ?_)
                          have hv32 := cv_d0 hp32 (by omega) (by omega)
                          clear hp32
                          obtain ⟨hp32, hq32⟩ := hv32
                          subst hq32
                          have rz32a := rz32.1
                          have rz32b := rz32.2
                          refine lv_aload_n hx hb dL_holds_373 rfl (lv_at hl 9 rfl) ?_
                          refine lv_iload hx hb dL_holds_374 (lv_at hl 0 rfl) ?_
                          refine r_iconst hx hb dL_holds_376 ?_
                          refine k_Vi (j := 0) (k0 := 0) C0 hW (c_X5_dispute l G w (hO) d9 1 ⟨by omega, by omega⟩ ⟨by omega, by omega⟩) km_L_83 ki_X5_dispute ke_X5_dispute kn_X5 kc_X5_dispute rfl hdV_X5_dispute ⟨by decide, by decide⟩ (show 0 < 11 ∧ 0 < bs 0 from ⟨by decide, by decide⟩) rfl rfl rfl hl.1 rfl (Nat.le_of_ble_eq_true rfl) dL_holds_377 (fun z33 w33 H1 locs1 rz33 hp33 hW => ?_)
                          have hv33 := cv_d1 hp33 (by omega) (by omega)
                          clear hp33
                          obtain ⟨hp33, hq33⟩ := hv33
                          subst hq33
                          have rz33a := rz33.1
                          have rz33b := rz33.2
                          refine r_icmp_eq (tgt := 407) hx hb rz32 rz33 dL_holds_380 (by decide) (fun c34 => ?_) (fun c34 => ?_)
                          · exfalso; omega
                          · refine lv_iload hx hb dL_holds_383 (lv_at hl 0 rfl) ?_
                            refine r_if_le (tgt := 409) hx hb ⟨by omega, by omega⟩ dL_holds_385 (by decide) (fun c35 => ?_) (fun c35 => ?_)
                            · refine r_iinc (lv' := [(9, .int (iI (d9 + 1))), (8, .int (iI z5)), (7, .int (iI r7)), (6, .int (iI r6)), (5, .int (iI r5)), (4, .int (iI r4)), (3, .int (iI a3)), (2, .int (iI a2)), (1, .int (iI a1)), (0, .ref (ad G 0 0))]) hx hb dL_holds_409 hl (k := 0) rfl (by decide) rfl (fun ls hl => ?_)
                              refine lv_goto (tgt := 359) hx hb dL_holds_412 (by decide) ?_
                              exact ih359 (d9 + 1) _ _ ls (by omega) (by omega) (by omega) hW (lv_sub hl [0, 1, 2, 3, 4, 5, 6, 7, 8, 9] rfl)
                            · have hE9 := hI.2.2.2.2.2.2.2.2.2.1 (gN (w 1) 14 4 + d9) (by omega) (by omega)
                              rw [show gN (w 1) 14 4 + d9 - 1 = gN (w 1) 14 4 + (d9 - 1) by omega] at hE9
                              refine lv_aload_n hx hb dL_holds_388 rfl (lv_at hl 9 rfl) ?_
                              refine lv_iload hx hb dL_holds_389 (lv_at hl 0 rfl) ?_
                              refine r_iconst hx hb dL_holds_391 ?_
                              refine k_Vi (j := 0) (k0 := 0) C0 hW (c_X5_dispute l G w (hO) d9 2 ⟨by omega, by omega⟩ ⟨by omega, by omega⟩) km_L_83 ki_X5_dispute ke_X5_dispute kn_X5 kc_X5_dispute rfl hdV_X5_dispute ⟨by decide, by decide⟩ (show 0 < 11 ∧ 0 < bs 0 from ⟨by decide, by decide⟩) rfl rfl rfl hl.1 rfl (Nat.le_of_ble_eq_true rfl) dL_holds_392 (fun z36 w36 H1 locs1 rz36 hp36 hW => ?_)
                              have hv36 := cv_d2 hp36 (by omega) (by omega)
                              clear hp36
                              obtain ⟨hp36, hq36⟩ := hv36
                              subst hq36
                              have rz36a := rz36.1
                              have rz36b := rz36.2
                              refine lv_aload_n hx hb dL_holds_395 rfl (lv_at hl 9 rfl) ?_
                              refine lv_iload hx hb dL_holds_396 (lv_at hl 0 rfl) ?_
                              refine r_iconst hx hb dL_holds_398 ?_
                              refine r_isub hx hb dL_holds_399 ?_
                              refine r_iconst hx hb dL_holds_400 ?_
                              refine k_Vi (j := 0) (k0 := 0) C0 hW (c_X5_dispute l G w (hO) (d9 - 1) 2 ⟨by omega, by omega⟩ ⟨by omega, by omega⟩) km_L_83 ki_X5_dispute ke_X5_dispute kn_X5 kc_X5_dispute rfl hdV_X5_dispute ⟨by decide, by decide⟩ (show 0 < 11 ∧ 0 < bs 0 from ⟨by decide, by decide⟩) rfl rfl rfl hl.1 rfl (Nat.le_of_ble_eq_true rfl) dL_holds_401 (fun z37 w37 H1 locs1 rz37 hp37 hW => ?_)
                              have hv37 := cv_d2 hp37 (by omega) (by omega)
                              clear hp37
                              obtain ⟨hp37, hq37⟩ := hv37
                              subst hq37
                              have rz37a := rz37.1
                              have rz37b := rz37.2
                              refine r_icmp_gt (tgt := 409) hx hb rz36 rz37 dL_holds_404 (by decide) (fun c38 => ?_) (fun c38 => ?_)
                              · refine r_iinc (lv' := [(9, .int (iI (d9 + 1))), (8, .int (iI z5)), (7, .int (iI r7)), (6, .int (iI r6)), (5, .int (iI r5)), (4, .int (iI r4)), (3, .int (iI a3)), (2, .int (iI a2)), (1, .int (iI a1)), (0, .ref (ad G 0 0))]) hx hb dL_holds_409 hl (k := 0) rfl (by decide) rfl (fun ls hl => ?_)
                                refine lv_goto (tgt := 359) hx hb dL_holds_412 (by decide) ?_
                                exact ih359 (d9 + 1) _ _ ls (by omega) (by omega) (by omega) hW (lv_sub hl [0, 1, 2, 3, 4, 5, 6, 7, 8, 9] rfl)
                              · exfalso; omega
                    exact hL359 121 0 _ _ ls (by omega) (by omega) (by omega) hW (lv_sub hl [0, 1, 2, 3, 4, 5, 6, 7, 8, 9] rfl)
                  · have hP9 := hI.2.2.2.1 p8 i247_0 (by omega)
                    refine lv_aload_n hx hb dL_holds_254 rfl (lv_at hl 8 rfl) ?_
                    refine lv_iload hx hb dL_holds_255 (lv_at hl 0 rfl) ?_
                    refine r_bipush hx hb dL_holds_257 (by decide) ?_
                    refine r_irem hx hb ⟨by omega, by omega⟩ ⟨by omega, by omega⟩ (by omega) (by omega) dL_holds_259 ?_
                    refine lv_iload hx hb dL_holds_260 (lv_at hl 0 rfl) ?_
                    refine k_Vi (j := 0) (k0 := 0) C0 hW (c_X5_why l G w (hO) (p8 % 10) p8 ⟨by omega, by omega⟩ ⟨by omega, by omega⟩) km_L_80 ki_X5_why ke_X5_why kn_X5 kc_X5_why rfl hdV_X5_why ⟨by decide, by decide⟩ (show 0 < 11 ∧ 0 < bs 0 from ⟨by decide, by decide⟩) rfl rfl rfl hl.1 rfl (Nat.le_of_ble_eq_true rfl) dL_holds_262 (fun z39 w39 H1 locs1 rz39 hp39 hW => ?_)
                    have hv39 := cv_why hp39 (by omega) (by omega)
                    clear hp39
                    obtain ⟨hp39, hq39⟩ := hv39
                    subst hq39
                    have rz39a := rz39.1
                    have rz39b := rz39.2
                    refine lv_istore (lv' := [(9, .int (iI z39)), (8, .int (iI p8)), (7, .int (iI r7)), (6, .int (iI r6)), (5, .int (iI r5)), (4, .int (iI r4)), (3, .int (iI a3)), (2, .int (iI a2)), (1, .int (iI a1)), (0, .ref (ad G 0 0))]) hx hb dL_holds_265 hl (by decide) rfl (fun ls hl => ?_)
                    refine lv_aload_n hx hb dL_holds_267 rfl (lv_at hl 9 rfl) ?_
                    refine lv_iload hx hb dL_holds_268 (lv_at hl 1 rfl) ?_
                    refine r_iconst hx hb dL_holds_270 ?_
                    refine k_Vi (j := 0) (k0 := 0) C0 hW (c_X5_plot l G w (hO) p8 0 ⟨by omega, by omega⟩ ⟨by omega, by omega⟩) km_L_22 ki_X5_plot ke_X5_plot kn_X5 kc_X5_plot rfl hdV_X5_plot ⟨by decide, by decide⟩ (show 0 < 11 ∧ 0 < bs 0 from ⟨by decide, by decide⟩) rfl rfl rfl hl.1 rfl (Nat.le_of_ble_eq_true rfl) dL_holds_271 (fun z40 w40 H1 locs1 rz40 hp40 hW => ?_)
                    have hv40 := cv_plot hp40 (by omega) (by omega)
                    clear hp40
                    obtain ⟨hp40, hq40⟩ := hv40
                    subst hq40
                    replace hp40 : z40 = gA (w 1) 1 p8 := hp40
                    have rz40a := rz40.1
                    have rz40b := rz40.2
                    refine r_if_lt (tgt := 340) hx hb rz40 dL_holds_274 (by decide) (fun c41 => ?_) (fun c41 => ?_)
                    · exfalso; omega
                    · refine lv_aload_n hx hb dL_holds_277 rfl (lv_at hl 9 rfl) ?_
                      refine lv_iload hx hb dL_holds_278 (lv_at hl 1 rfl) ?_
                      refine r_iconst hx hb dL_holds_280 ?_
                      refine k_Vi (j := 0) (k0 := 0) C0 hW (c_X5_plot l G w (hO) p8 0 ⟨by omega, by omega⟩ ⟨by omega, by omega⟩) km_L_22 ki_X5_plot ke_X5_plot kn_X5 kc_X5_plot rfl hdV_X5_plot ⟨by decide, by decide⟩ (show 0 < 11 ∧ 0 < bs 0 from ⟨by decide, by decide⟩) rfl rfl rfl hl.1 rfl (Nat.le_of_ble_eq_true rfl) dL_holds_281 (fun z42 w42 H1 locs1 rz42 hp42 hW => ?_)
                      have hv42 := cv_plot hp42 (by omega) (by omega)
                      clear hp42
                      obtain ⟨hp42, hq42⟩ := hv42
                      subst hq42
                      replace hp42 : z42 = gA (w 1) 1 p8 := hp42
                      have rz42a := rz42.1
                      have rz42b := rz42.2
                      refine r_bipush hx hb dL_holds_284 (by decide) ?_
                      refine r_icmp_gt (tgt := 340) hx hb rz42 ⟨by omega, by omega⟩ dL_holds_286 (by decide) (fun c43 => ?_) (fun c43 => ?_)
                      · exfalso; omega
                      · refine lv_iload hx hb dL_holds_289 (lv_at hl 0 rfl) ?_
                        refine r_if_lt (tgt := 340) hx hb rz39 dL_holds_291 (by decide) (fun c44 => ?_) (fun c44 => ?_)
                        · exfalso; omega
                        · refine lv_iload hx hb dL_holds_294 (lv_at hl 0 rfl) ?_
                          refine r_iconst hx hb dL_holds_296 ?_
                          refine r_icmp_gt (tgt := 340) hx hb rz39 ⟨by omega, by omega⟩ dL_holds_297 (by decide) (fun c45 => ?_) (fun c45 => ?_)
                          · exfalso; omega
                          · refine lv_aload_n hx hb dL_holds_300 rfl (lv_at hl 9 rfl) ?_
                            refine lv_iload hx hb dL_holds_301 (lv_at hl 1 rfl) ?_
                            refine r_iconst hx hb dL_holds_303 ?_
                            refine k_Vi (j := 0) (k0 := 0) C0 hW (c_X5_plot l G w (hO) p8 3 ⟨by omega, by omega⟩ ⟨by omega, by omega⟩) km_L_22 ki_X5_plot ke_X5_plot kn_X5 kc_X5_plot rfl hdV_X5_plot ⟨by decide, by decide⟩ (show 0 < 11 ∧ 0 < bs 0 from ⟨by decide, by decide⟩) rfl rfl rfl hl.1 rfl (Nat.le_of_ble_eq_true rfl) dL_holds_304 (fun z46 w46 H1 locs1 rz46 hp46 hW => ?_)
                            have hv46 := cv_plot hp46 (by omega) (by omega)
                            clear hp46
                            obtain ⟨hp46, hq46⟩ := hv46
                            subst hq46
                            replace hp46 := plo3 hp46
                            have rz46a := rz46.1
                            have rz46b := rz46.2
                            refine r_if_ne (tgt := 314) hx hb rz46 dL_holds_307 (by decide) (fun c47 => ?_) (fun c47 => ?_)
                            · refine r_iconst hx hb dL_holds_314 ?_
                              refine lv_aload_n hx hb dL_holds_315 rfl (lv_at hl 9 rfl) ?_
                              refine lv_iload hx hb dL_holds_316 (lv_at hl 1 rfl) ?_
                              refine r_iconst hx hb dL_holds_318 ?_
                              refine k_Vi (j := 0) (k0 := 0) C0 hW (c_X5_plot l G w (hO) p8 1 ⟨by omega, by omega⟩ ⟨by omega, by omega⟩) km_L_22 ki_X5_plot ke_X5_plot kn_X5 kc_X5_plot rfl hdV_X5_plot ⟨by decide, by decide⟩ (show 0 < 11 ∧ 0 < bs 0 from ⟨by decide, by decide⟩) rfl rfl rfl hl.1 rfl (Nat.le_of_ble_eq_true rfl) dL_holds_319 (fun z48 w48 H1 locs1 rz48 hp48 hW => ?_)
                              have hv48 := cv_plot hp48 (by omega) (by omega)
                              clear hp48
                              obtain ⟨hp48, hq48⟩ := hv48
                              subst hq48
                              replace hp48 : z48 = gA (w 1) 2 p8 := hp48
                              have rz48a := rz48.1
                              have rz48b := rz48.2
                              refine lv_aload_n hx hb dL_holds_322 rfl (lv_at hl 9 rfl) ?_
                              refine lv_iload hx hb dL_holds_323 (lv_at hl 1 rfl) ?_
                              refine r_iconst hx hb dL_holds_325 ?_
                              refine k_Vi (j := 0) (k0 := 0) C0 hW (c_X5_plot l G w (hO) p8 2 ⟨by omega, by omega⟩ ⟨by omega, by omega⟩) km_L_22 ki_X5_plot ke_X5_plot kn_X5 kc_X5_plot rfl hdV_X5_plot ⟨by decide, by decide⟩ (show 0 < 11 ∧ 0 < bs 0 from ⟨by decide, by decide⟩) rfl rfl rfl hl.1 rfl (Nat.le_of_ble_eq_true rfl) dL_holds_326 (fun z49 w49 H1 locs1 rz49 hp49 hW => ?_)
                              have hv49 := cv_plot hp49 (by omega) (by omega)
                              clear hp49
                              obtain ⟨hp49, hq49⟩ := hv49
                              subst hq49
                              replace hp49 : z49 = gA (w 1) 3 p8 := hp49
                              have rz49a := rz49.1
                              have rz49b := rz49.2
                              refine r_icmp_ne (tgt := 336) hx hb rz48 rz49 dL_holds_329 (by decide) (fun c50 => ?_) (fun c50 => ?_)
                              · refine r_iconst hx hb dL_holds_336 ?_
                                refine r_icmp_eq (tgt := 342) hx hb ⟨by omega, by omega⟩ ⟨by omega, by omega⟩ dL_holds_337 (by decide) (fun _ => ?_) (fun q => absurd q (by decide))
                                refine r_iinc (lv' := [(8, .int (iI (p8 + 1))), (9, .int (iI z39)), (7, .int (iI r7)), (6, .int (iI r6)), (5, .int (iI r5)), (4, .int (iI r4)), (3, .int (iI a3)), (2, .int (iI a2)), (1, .int (iI a1)), (0, .ref (ad G 0 0))]) hx hb dL_holds_342 hl (k := 1) rfl (by decide) rfl (fun ls hl => ?_)
                                refine lv_goto (tgt := 247) hx hb dL_holds_345 (by decide) ?_
                                exact ih247 (p8 + 1) _ _ ls (by omega) (by omega) (by omega) hW (lv_sub hl [0, 2, 3, 4, 5, 6, 7, 8, 9] rfl)
                              · refine r_iconst hx hb dL_holds_332 ?_
                                refine lv_goto (tgt := 337) hx hb dL_holds_333 (by decide) ?_
                                refine r_icmp_eq (tgt := 342) hx hb ⟨by omega, by omega⟩ ⟨by omega, by omega⟩ dL_holds_337 (by decide) (fun q => absurd q (by decide)) (fun _ => ?_)
                                exfalso; omega
                            · refine r_iconst hx hb dL_holds_310 ?_
                              refine lv_goto (tgt := 315) hx hb dL_holds_311 (by decide) ?_
                              refine lv_aload_n hx hb dL_holds_315 rfl (lv_at hl 9 rfl) ?_
                              refine lv_iload hx hb dL_holds_316 (lv_at hl 1 rfl) ?_
                              refine r_iconst hx hb dL_holds_318 ?_
                              refine k_Vi (j := 0) (k0 := 0) C0 hW (c_X5_plot l G w (hO) p8 1 ⟨by omega, by omega⟩ ⟨by omega, by omega⟩) km_L_22 ki_X5_plot ke_X5_plot kn_X5 kc_X5_plot rfl hdV_X5_plot ⟨by decide, by decide⟩ (show 0 < 11 ∧ 0 < bs 0 from ⟨by decide, by decide⟩) rfl rfl rfl hl.1 rfl (Nat.le_of_ble_eq_true rfl) dL_holds_319 (fun z51 w51 H1 locs1 rz51 hp51 hW => ?_)
                              have hv51 := cv_plot hp51 (by omega) (by omega)
                              clear hp51
                              obtain ⟨hp51, hq51⟩ := hv51
                              subst hq51
                              replace hp51 : z51 = gA (w 1) 2 p8 := hp51
                              have rz51a := rz51.1
                              have rz51b := rz51.2
                              refine lv_aload_n hx hb dL_holds_322 rfl (lv_at hl 9 rfl) ?_
                              refine lv_iload hx hb dL_holds_323 (lv_at hl 1 rfl) ?_
                              refine r_iconst hx hb dL_holds_325 ?_
                              refine k_Vi (j := 0) (k0 := 0) C0 hW (c_X5_plot l G w (hO) p8 2 ⟨by omega, by omega⟩ ⟨by omega, by omega⟩) km_L_22 ki_X5_plot ke_X5_plot kn_X5 kc_X5_plot rfl hdV_X5_plot ⟨by decide, by decide⟩ (show 0 < 11 ∧ 0 < bs 0 from ⟨by decide, by decide⟩) rfl rfl rfl hl.1 rfl (Nat.le_of_ble_eq_true rfl) dL_holds_326 (fun z52 w52 H1 locs1 rz52 hp52 hW => ?_)
                              have hv52 := cv_plot hp52 (by omega) (by omega)
                              clear hp52
                              obtain ⟨hp52, hq52⟩ := hv52
                              subst hq52
                              replace hp52 : z52 = gA (w 1) 3 p8 := hp52
                              have rz52a := rz52.1
                              have rz52b := rz52.2
                              refine r_icmp_ne (tgt := 336) hx hb rz51 rz52 dL_holds_329 (by decide) (fun c53 => ?_) (fun c53 => ?_)
                              · refine r_iconst hx hb dL_holds_336 ?_
                                refine r_icmp_eq (tgt := 342) hx hb ⟨by omega, by omega⟩ ⟨by omega, by omega⟩ dL_holds_337 (by decide) (fun q => absurd q (by decide)) (fun _ => ?_)
                                exfalso; omega
                              · refine r_iconst hx hb dL_holds_332 ?_
                                refine lv_goto (tgt := 337) hx hb dL_holds_333 (by decide) ?_
                                refine r_icmp_eq (tgt := 342) hx hb ⟨by omega, by omega⟩ ⟨by omega, by omega⟩ dL_holds_337 (by decide) (fun _ => ?_) (fun q => absurd q (by decide))
                                refine r_iinc (lv' := [(8, .int (iI (p8 + 1))), (9, .int (iI z39)), (7, .int (iI r7)), (6, .int (iI r6)), (5, .int (iI r5)), (4, .int (iI r4)), (3, .int (iI a3)), (2, .int (iI a2)), (1, .int (iI a1)), (0, .ref (ad G 0 0))]) hx hb dL_holds_342 hl (k := 1) rfl (by decide) rfl (fun ls hl => ?_)
                                refine lv_goto (tgt := 247) hx hb dL_holds_345 (by decide) ?_
                                exact ih247 (p8 + 1) _ _ ls (by omega) (by omega) (by omega) hW (lv_sub hl [0, 2, 3, 4, 5, 6, 7, 8, 9] rfl)
              exact hL247 121 0 _ _ ls (by omega) (by omega) (by omega) hW (lv_sub hl [0, 1, 2, 3, 4, 5, 6, 7, 8] rfl)
            · have hC9 := hI.2.2.2.2.1 k8 i141_0 (by omega)
              have hso9 := cntI_imp (p := pSO (w 1) k8) (q := pOf (w 1) k8) (fun r t => ⟨t.1.1, t.2⟩) hn0
              refine lv_iload hx hb dL_holds_148 (lv_at hl 4 rfl) ?_
              refine lv_aload_n hx hb dL_holds_150 rfl (lv_at hl 8 rfl) ?_
              refine lv_iload hx hb dL_holds_151 (lv_at hl 0 rfl) ?_
              refine r_iconst hx hb dL_holds_153 ?_
              refine k_Vi (j := 0) (k0 := 0) C0 hW (c_X5_commoner l G w (hO) k8 3 ⟨by omega, by omega⟩ ⟨by omega, by omega⟩) km_L_18 ki_X5_commoner ke_X5_commoner kn_X5 kc_X5_commoner rfl hdV_X5_commoner ⟨by decide, by decide⟩ (show 0 < 11 ∧ 0 < bs 0 from ⟨by decide, by decide⟩) rfl rfl rfl hl.1 rfl (Nat.le_of_ble_eq_true rfl) dL_holds_154 (fun z54 w54 H1 locs1 rz54 hp54 hW => ?_)
              have hv54 := cv_com7 hp54 (by omega) (by omega)
              clear hp54
              obtain ⟨hp54, hq54⟩ := hv54
              subst hq54
              replace hp54 : z54 = cntI (pOf (w 1) k8) (gN (w 1) 7 6) := hp54
              have rz54a := rz54.1
              have rz54b := rz54.2
              refine r_iadd hx hb dL_holds_157 ?_
              refine lv_istore (lv' := [(4, .int (iI (r4 + z54))), (8, .int (iI k8)), (7, .int (iI r7)), (6, .int (iI r6)), (5, .int (iI r5)), (3, .int (iI a3)), (2, .int (iI a2)), (1, .int (iI a1)), (0, .ref (ad G 0 0))]) hx hb dL_holds_158 hl (by decide) rfl (fun ls hl => ?_)
              refine lv_iload hx hb dL_holds_160 (lv_at hl 3 rfl) ?_
              refine lv_aload_n hx hb dL_holds_162 rfl (lv_at hl 8 rfl) ?_
              refine lv_iload hx hb dL_holds_163 (lv_at hl 1 rfl) ?_
              refine r_iconst hx hb dL_holds_165 ?_
              refine k_Vi (j := 0) (k0 := 0) C0 hW (c_X5_commoner l G w (hO) k8 5 ⟨by omega, by omega⟩ ⟨by omega, by omega⟩) km_L_18 ki_X5_commoner ke_X5_commoner kn_X5 kc_X5_commoner rfl hdV_X5_commoner ⟨by decide, by decide⟩ (show 0 < 11 ∧ 0 < bs 0 from ⟨by decide, by decide⟩) rfl rfl rfl hl.1 rfl (Nat.le_of_ble_eq_true rfl) dL_holds_166 (fun z55 w55 H1 locs1 rz55 hp55 hW => ?_)
              have hv55 := cv_com7 hp55 (by omega) (by omega)
              clear hp55
              obtain ⟨hp55, hq55⟩ := hv55
              subst hq55
              replace hp55 : z55 = cntI (pEq (w 1) 2 k8) 20 := hp55
              have rz55a := rz55.1
              have rz55b := rz55.2
              refine r_iadd hx hb dL_holds_169 ?_
              refine lv_istore (lv' := [(6, .int (iI (r6 + z55))), (4, .int (iI (r4 + z54))), (8, .int (iI k8)), (7, .int (iI r7)), (5, .int (iI r5)), (3, .int (iI a3)), (2, .int (iI a2)), (1, .int (iI a1)), (0, .ref (ad G 0 0))]) hx hb dL_holds_170 hl (by decide) rfl (fun ls hl => ?_)
              refine lv_iload hx hb dL_holds_172 (lv_at hl 4 rfl) ?_
              refine lv_aload_n hx hb dL_holds_174 rfl (lv_at hl 8 rfl) ?_
              refine lv_iload hx hb dL_holds_175 (lv_at hl 2 rfl) ?_
              refine r_bipush hx hb dL_holds_177 (by decide) ?_
              refine k_Vi (j := 0) (k0 := 0) C0 hW (c_X5_commoner l G w (hO) k8 6 ⟨by omega, by omega⟩ ⟨by omega, by omega⟩) km_L_18 ki_X5_commoner ke_X5_commoner kn_X5 kc_X5_commoner rfl hdV_X5_commoner ⟨by decide, by decide⟩ (show 0 < 11 ∧ 0 < bs 0 from ⟨by decide, by decide⟩) rfl rfl rfl hl.1 rfl (Nat.le_of_ble_eq_true rfl) dL_holds_179 (fun z56 w56 H1 locs1 rz56 hp56 hW => ?_)
              have hv56 := cv_com7 hp56 (by omega) (by omega)
              clear hp56
              obtain ⟨hp56, hq56⟩ := hv56
              subst hq56
              replace hp56 : z56 = cntI (pEq (w 1) 3 k8) 20 := hp56
              have rz56a := rz56.1
              have rz56b := rz56.2
              refine r_iadd hx hb dL_holds_182 ?_
              refine lv_istore (lv' := [(5, .int (iI (r5 + z56))), (6, .int (iI (r6 + z55))), (4, .int (iI (r4 + z54))), (8, .int (iI k8)), (7, .int (iI r7)), (3, .int (iI a3)), (2, .int (iI a2)), (1, .int (iI a1)), (0, .ref (ad G 0 0))]) hx hb dL_holds_183 hl (by decide) rfl (fun ls hl => ?_)
              refine lv_iload hx hb dL_holds_185 (lv_at hl 4 rfl) ?_
              refine lv_aload_n hx hb dL_holds_187 rfl (lv_at hl 8 rfl) ?_
              refine lv_iload hx hb dL_holds_188 (lv_at hl 3 rfl) ?_
              refine r_iconst hx hb dL_holds_190 ?_
              refine k_Vi (j := 0) (k0 := 0) C0 hW (c_X5_commoner l G w (hO) k8 2 ⟨by omega, by omega⟩ ⟨by omega, by omega⟩) km_L_18 ki_X5_commoner ke_X5_commoner kn_X5 kc_X5_commoner rfl hdV_X5_commoner ⟨by decide, by decide⟩ (show 0 < 11 ∧ 0 < bs 0 from ⟨by decide, by decide⟩) rfl rfl rfl hl.1 rfl (Nat.le_of_ble_eq_true rfl) dL_holds_191 (fun z57 w57 H1 locs1 rz57 hp57 hW => ?_)
              have hv57 := cv_com7 hp57 (by omega) (by omega)
              clear hp57
              obtain ⟨hp57, hq57⟩ := hv57
              subst hq57
              replace hp57 : z57 = gA (w 1) 6 k8 := hp57
              have rz57a := rz57.1
              have rz57b := rz57.2
              refine r_iadd hx hb dL_holds_194 ?_
              refine lv_istore (lv' := [(7, .int (iI (r7 + z57))), (5, .int (iI (r5 + z56))), (6, .int (iI (r6 + z55))), (4, .int (iI (r4 + z54))), (8, .int (iI k8)), (3, .int (iI a3)), (2, .int (iI a2)), (1, .int (iI a1)), (0, .ref (ad G 0 0))]) hx hb dL_holds_195 hl (by decide) rfl (fun ls hl => ?_)
              refine lv_aload_n hx hb dL_holds_197 rfl (lv_at hl 8 rfl) ?_
              refine lv_iload hx hb dL_holds_198 (lv_at hl 4 rfl) ?_
              refine r_iconst hx hb dL_holds_200 ?_
              refine k_Vi (j := 0) (k0 := 0) C0 hW (c_X5_commoner l G w (hO) k8 2 ⟨by omega, by omega⟩ ⟨by omega, by omega⟩) km_L_18 ki_X5_commoner ke_X5_commoner kn_X5 kc_X5_commoner rfl hdV_X5_commoner ⟨by decide, by decide⟩ (show 0 < 11 ∧ 0 < bs 0 from ⟨by decide, by decide⟩) rfl rfl rfl hl.1 rfl (Nat.le_of_ble_eq_true rfl) dL_holds_201 (fun z58 w58 H1 locs1 rz58 hp58 hW => ?_)
              have hv58 := cv_com7 hp58 (by omega) (by omega)
              clear hp58
              obtain ⟨hp58, hq58⟩ := hv58
              subst hq58
              replace hp58 : z58 = gA (w 1) 6 k8 := hp58
              have rz58a := rz58.1
              have rz58b := rz58.2
              refine r_if_lt (tgt := 236) hx hb rz58 dL_holds_204 (by decide) (fun c59 => ?_) (fun c59 => ?_)
              · exfalso; omega
              · refine lv_aload_n hx hb dL_holds_207 rfl (lv_at hl 8 rfl) ?_
                refine lv_iload hx hb dL_holds_208 (lv_at hl 4 rfl) ?_
                refine r_iconst hx hb dL_holds_210 ?_
                refine k_Vi (j := 0) (k0 := 0) C0 hW (c_X5_commoner l G w (hO) k8 1 ⟨by omega, by omega⟩ ⟨by omega, by omega⟩) km_L_18 ki_X5_commoner ke_X5_commoner kn_X5 kc_X5_commoner rfl hdV_X5_commoner ⟨by decide, by decide⟩ (show 0 < 11 ∧ 0 < bs 0 from ⟨by decide, by decide⟩) rfl rfl rfl hl.1 rfl (Nat.le_of_ble_eq_true rfl) dL_holds_211 (fun z60 w60 H1 locs1 rz60 hp60 hW => ?_)
                have hv60 := cv_com7 hp60 (by omega) (by omega)
                clear hp60
                obtain ⟨hp60, hq60⟩ := hv60
                subst hq60
                replace hp60 : z60 = gA (w 1) 5 k8 := hp60
                have rz60a := rz60.1
                have rz60b := rz60.2
                refine r_bipush hx hb dL_holds_214 (by decide) ?_
                refine r_icmp_gt (tgt := 236) hx hb rz60 ⟨by omega, by omega⟩ dL_holds_216 (by decide) (fun c61 => ?_) (fun c61 => ?_)
                · exfalso; omega
                · refine lv_aload_n hx hb dL_holds_219 rfl (lv_at hl 8 rfl) ?_
                  refine lv_iload hx hb dL_holds_220 (lv_at hl 4 rfl) ?_
                  refine r_iconst hx hb dL_holds_222 ?_
                  refine k_Vi (j := 0) (k0 := 0) C0 hW (c_X5_commoner l G w (hO) k8 4 ⟨by omega, by omega⟩ ⟨by omega, by omega⟩) km_L_18 ki_X5_commoner ke_X5_commoner kn_X5 kc_X5_commoner rfl hdV_X5_commoner ⟨by decide, by decide⟩ (show 0 < 11 ∧ 0 < bs 0 from ⟨by decide, by decide⟩) rfl rfl rfl hl.1 rfl (Nat.le_of_ble_eq_true rfl) dL_holds_223 (fun z62 w62 H1 locs1 rz62 hp62 hW => ?_)
                  have hv62 := cv_com7 hp62 (by omega) (by omega)
                  clear hp62
                  obtain ⟨hp62, hq62⟩ := hv62
                  subst hq62
                  replace hp62 : z62 = cntI (pSO (w 1) k8) (gN (w 1) 7 6) := hp62
                  have rz62a := rz62.1
                  have rz62b := rz62.2
                  refine lv_aload_n hx hb dL_holds_226 rfl (lv_at hl 8 rfl) ?_
                  refine lv_iload hx hb dL_holds_227 (lv_at hl 4 rfl) ?_
                  refine r_iconst hx hb dL_holds_229 ?_
                  refine k_Vi (j := 0) (k0 := 0) C0 hW (c_X5_commoner l G w (hO) k8 3 ⟨by omega, by omega⟩ ⟨by omega, by omega⟩) km_L_18 ki_X5_commoner ke_X5_commoner kn_X5 kc_X5_commoner rfl hdV_X5_commoner ⟨by decide, by decide⟩ (show 0 < 11 ∧ 0 < bs 0 from ⟨by decide, by decide⟩) rfl rfl rfl hl.1 rfl (Nat.le_of_ble_eq_true rfl) dL_holds_230 (fun z63 w63 H1 locs1 rz63 hp63 hW => ?_)
                  have hv63 := cv_com7 hp63 (by omega) (by omega)
                  clear hp63
                  obtain ⟨hp63, hq63⟩ := hv63
                  subst hq63
                  replace hp63 : z63 = cntI (pOf (w 1) k8) (gN (w 1) 7 6) := hp63
                  have rz63a := rz63.1
                  have rz63b := rz63.2
                  refine r_icmp_le (tgt := 238) hx hb rz62 rz63 dL_holds_233 (by decide) (fun c64 => ?_) (fun c64 => ?_)
                  · refine r_iinc (lv' := [(8, .int (iI (k8 + 1))), (7, .int (iI (r7 + z57))), (5, .int (iI (r5 + z56))), (6, .int (iI (r6 + z55))), (4, .int (iI (r4 + z54))), (3, .int (iI a3)), (2, .int (iI a2)), (1, .int (iI a1)), (0, .ref (ad G 0 0))]) hx hb dL_holds_238 hl (k := 4) rfl (by decide) rfl (fun ls hl => ?_)
                    refine lv_goto (tgt := 141) hx hb dL_holds_241 (by decide) ?_
                    exact ih141 (r4 + z54) (r5 + z56) (r6 + z55) (r7 + z57) (k8 + 1) _ _ ls (by omega) (by omega) (by omega) (by rw [sumX_s _ i141_0]; show _ = _ + cntI (pOf (w 1) k8) (gN (w 1) 7 6); omega) (by rw [sumX_s _ i141_0]; show _ = _ + cntI (pEq (w 1) 2 k8) 20; omega) (by rw [sumX_s _ i141_0]; show _ = _ + cntI (pEq (w 1) 3 k8) 20; omega) (by rw [sumX_s _ i141_0]; show _ = _ + gA (w 1) 6 k8; omega) hW (lv_sub hl [0, 1, 3, 2, 4, 5, 6, 7, 8] rfl)
                  · exfalso; omega
        exact hL141 121 0 0 0 0 0 _ _ ls (by omega) (by omega) (by omega) (by rw [sumX_0]) (by rw [sumX_0]) (by rw [sumX_0]) (by rw [sumX_0]) hW (lv_sub hl [0, 1, 2, 3, 4, 5, 6, 7, 8] rfl)
      · have hwx := hwf.2.2.1 x4
        refine lv_aload_n hx hb dL_holds_19 rfl (lv_at hl 4 rfl) ?_
        refine lv_iload hx hb dL_holds_20 (lv_at hl 0 rfl) ?_
        refine r_iconst hx hb dL_holds_22 ?_
        refine k_Vi (j := 0) (k0 := 0) C0 hW (c_X5_row l G w (hO) x4 2 ⟨by omega, by omega⟩ ⟨by omega, by omega⟩) km_L_25 ki_X5_row ke_X5_row kn_X5 kc_X5_row rfl hdV_X5_row ⟨by decide, by decide⟩ (show 0 < 11 ∧ 0 < bs 0 from ⟨by decide, by decide⟩) rfl rfl rfl hl.1 rfl (Nat.le_of_ble_eq_true rfl) dL_holds_23 (fun z65 w65 H1 locs1 rz65 hp65 hW => ?_)
        have hv65 := cv_row hp65 (by omega)
        clear hp65
        obtain ⟨hp65, hq65⟩ := hv65
        subst hq65
        replace hp65 := row2 hp65
        have rz65a := rz65.1
        have rz65b := rz65.2
        refine lv_istore (lv' := [(5, .int (iI z65)), (4, .int (iI x4)), (3, .int (iI a3)), (2, .int (iI a2)), (1, .int (iI a1)), (0, .ref (ad G 0 0))]) hx hb dL_holds_26 hl (by decide) rfl (fun ls hl => ?_)
        refine lv_iload hx hb dL_holds_28 (lv_at hl 0 rfl) ?_
        refine r_iconst hx hb dL_holds_30 ?_
        refine r_icmp_eq (tgt := 120) hx hb rz65 ⟨by omega, by omega⟩ dL_holds_31 (by decide) (fun c66 => ?_) (fun c66 => ?_)
        · have hnl : ¬ lyi (w 1) x4 := by rcases hp65 with ⟨_, t⟩ | ⟨t, _⟩; (exact absurd t (by omega)); exact t
          refine r_iinc (lv' := [(4, .int (iI (x4 + 1))), (5, .int (iI z65)), (3, .int (iI a3)), (2, .int (iI a2)), (1, .int (iI a1)), (0, .ref (ad G 0 0))]) hx hb dL_holds_120 hl (k := 1) rfl (by decide) rfl (fun ls hl => ?_)
          refine lv_goto (tgt := 9) hx hb dL_holds_123 (by decide) ?_
          exact ih9 a1 a2 a3 (x4 + 1) _ _ ls (by omega) (by omega) (by omega) (by rw [cntI_f (by omega) hnl]; exact i9_2) (by rw [cntI_f (by omega) (fun t => hnl t.1)]; exact i9_3) (by rw [cntI_f (by omega) (fun t => hnl t.1)]; exact i9_4) hW (lv_sub hl [0, 2, 3, 4, 5] rfl)
        · have hly : lyi (w 1) x4 := by rcases hp65 with ⟨t, _⟩ | ⟨_, t⟩; (exact t); exact absurd t (by omega)
          have hwt : z65 = gA (w 1) 10 x4 := by rcases hp65 with ⟨_, t⟩ | ⟨u, _⟩; (exact t); exact absurd hly u
          have hS9 : gA (w 1) 12 x4 = 0 ∨ gA (w 1) 10 x4 ≤ 20 := by by_cases t : gA (w 1) 12 x4 = 0; (exact Or.inl t); exact Or.inr (hI.2.2.1 x4 ⟨hly, t⟩)
          refine r_iinc (lv' := [(1, .int (iI (a1 + 1))), (5, .int (iI z65)), (4, .int (iI x4)), (3, .int (iI a3)), (2, .int (iI a2)), (0, .ref (ad G 0 0))]) hx hb dL_holds_34 hl (k := 4) rfl (by decide) rfl (fun ls hl => ?_)
          refine lv_iload_n hx hb dL_holds_37 rfl (lv_at hl 4 rfl) ?_
          refine lv_aload_n hx hb dL_holds_38 rfl (lv_at hl 5 rfl) ?_
          refine lv_iload hx hb dL_holds_39 (lv_at hl 2 rfl) ?_
          refine r_iconst hx hb dL_holds_41 ?_
          refine k_Vi (j := 0) (k0 := 0) C0 hW (c_X5_row l G w (hO) x4 4 ⟨by omega, by omega⟩ ⟨by omega, by omega⟩) km_L_25 ki_X5_row ke_X5_row kn_X5 kc_X5_row rfl hdV_X5_row ⟨by decide, by decide⟩ (show 0 < 11 ∧ 0 < bs 0 from ⟨by decide, by decide⟩) rfl rfl rfl hl.1 rfl (Nat.le_of_ble_eq_true rfl) dL_holds_42 (fun z67 w67 H1 locs1 rz67 hp67 hW => ?_)
          have hv67 := cv_row hp67 (by omega)
          clear hp67
          obtain ⟨hp67, hq67⟩ := hv67
          subst hq67
          replace hp67 := row4 hly hp67
          have rz67a := rz67.1
          have rz67b := rz67.2
          refine r_iadd hx hb dL_holds_45 ?_
          refine lv_istore_n (lv' := [(2, .int (iI (a2 + z67))), (1, .int (iI (a1 + 1))), (5, .int (iI z65)), (4, .int (iI x4)), (3, .int (iI a3)), (0, .ref (ad G 0 0))]) hx hb dL_holds_46 rfl hl (by decide) rfl (fun ls hl => ?_)
          refine lv_iload_n hx hb dL_holds_47 rfl (lv_at hl 4 rfl) ?_
          refine lv_aload_n hx hb dL_holds_48 rfl (lv_at hl 5 rfl) ?_
          refine lv_iload hx hb dL_holds_49 (lv_at hl 3 rfl) ?_
          refine r_iconst hx hb dL_holds_51 ?_
          refine k_Vi (j := 0) (k0 := 0) C0 hW (c_X5_row l G w (hO) x4 5 ⟨by omega, by omega⟩ ⟨by omega, by omega⟩) km_L_25 ki_X5_row ke_X5_row kn_X5 kc_X5_row rfl hdV_X5_row ⟨by decide, by decide⟩ (show 0 < 11 ∧ 0 < bs 0 from ⟨by decide, by decide⟩) rfl rfl rfl hl.1 rfl (Nat.le_of_ble_eq_true rfl) dL_holds_52 (fun z68 w68 H1 locs1 rz68 hp68 hW => ?_)
          have hv68 := cv_row hp68 (by omega)
          clear hp68
          obtain ⟨hp68, hq68⟩ := hv68
          subst hq68
          replace hp68 := row5 hly hp68
          have rz68a := rz68.1
          have rz68b := rz68.2
          refine r_iadd hx hb dL_holds_55 ?_
          refine lv_istore_n (lv' := [(3, .int (iI (a3 + z68))), (2, .int (iI (a2 + z67))), (1, .int (iI (a1 + 1))), (5, .int (iI z65)), (4, .int (iI x4)), (0, .ref (ad G 0 0))]) hx hb dL_holds_56 rfl hl (by decide) rfl (fun ls hl => ?_)
          refine lv_iload hx hb dL_holds_57 (lv_at hl 3 rfl) ?_
          refine r_if_lt (tgt := 118) hx hb rz65 dL_holds_59 (by decide) (fun c69 => ?_) (fun c69 => ?_)
          · exfalso; omega
          · refine lv_iload hx hb dL_holds_62 (lv_at hl 3 rfl) ?_
            refine r_bipush hx hb dL_holds_64 (by decide) ?_
            refine r_icmp_gt (tgt := 118) hx hb rz65 ⟨by omega, by omega⟩ dL_holds_66 (by decide) (fun c70 => ?_) (fun c70 => ?_)
            · exfalso; omega
            · refine lv_aload_n hx hb dL_holds_69 rfl (lv_at hl 5 rfl) ?_
              refine lv_iload hx hb dL_holds_70 (lv_at hl 4 rfl) ?_
              refine r_iconst hx hb dL_holds_72 ?_
              refine k_Vi (j := 0) (k0 := 0) C0 hW (c_X5_row l G w (hO) x4 4 ⟨by omega, by omega⟩ ⟨by omega, by omega⟩) km_L_25 ki_X5_row ke_X5_row kn_X5 kc_X5_row rfl hdV_X5_row ⟨by decide, by decide⟩ (show 0 < 11 ∧ 0 < bs 0 from ⟨by decide, by decide⟩) rfl rfl rfl hl.1 rfl (Nat.le_of_ble_eq_true rfl) dL_holds_73 (fun z71 w71 H1 locs1 rz71 hp71 hW => ?_)
              have hv71 := cv_row hp71 (by omega)
              clear hp71
              obtain ⟨hp71, hq71⟩ := hv71
              subst hq71
              replace hp71 := row4 hly hp71
              have rz71a := rz71.1
              have rz71b := rz71.2
              refine r_iconst hx hb dL_holds_76 ?_
              refine r_icmp_ne (tgt := 87) hx hb rz71 ⟨by omega, by omega⟩ dL_holds_77 (by decide) (fun c72 => ?_) (fun c72 => ?_)
              · refine lv_aload_n hx hb dL_holds_87 rfl (lv_at hl 5 rfl) ?_
                refine lv_iload hx hb dL_holds_88 (lv_at hl 4 rfl) ?_
                refine r_iconst hx hb dL_holds_90 ?_
                refine k_Vi (j := 0) (k0 := 0) C0 hW (c_X5_row l G w (hO) x4 5 ⟨by omega, by omega⟩ ⟨by omega, by omega⟩) km_L_25 ki_X5_row ke_X5_row kn_X5 kc_X5_row rfl hdV_X5_row ⟨by decide, by decide⟩ (show 0 < 11 ∧ 0 < bs 0 from ⟨by decide, by decide⟩) rfl rfl rfl hl.1 rfl (Nat.le_of_ble_eq_true rfl) dL_holds_91 (fun z73 w73 H1 locs1 rz73 hp73 hW => ?_)
                have hv73 := cv_row hp73 (by omega)
                clear hp73
                obtain ⟨hp73, hq73⟩ := hv73
                subst hq73
                replace hp73 := row5 hly hp73
                have rz73a := rz73.1
                have rz73b := rz73.2
                refine r_iconst hx hb dL_holds_94 ?_
                refine r_icmp_ne (tgt := 102) hx hb rz73 ⟨by omega, by omega⟩ dL_holds_95 (by decide) (fun c74 => ?_) (fun c74 => ?_)
                · refine r_iconst hx hb dL_holds_102 ?_
                  refine lv_iload hx hb dL_holds_103 (lv_at hl 3 rfl) ?_
                  refine r_bipush hx hb dL_holds_105 (by decide) ?_
                  refine r_icmp_gt (tgt := 114) hx hb rz65 ⟨by omega, by omega⟩ dL_holds_107 (by decide) (fun c75 => ?_) (fun c75 => ?_)
                  · refine r_iconst hx hb dL_holds_114 ?_
                    refine r_icmp_eq (tgt := 120) hx hb ⟨by omega, by omega⟩ ⟨by omega, by omega⟩ dL_holds_115 (by decide) (fun _ => ?_) (fun q => absurd q (by decide))
                    skip
                    refine r_iinc (lv' := [(4, .int (iI (x4 + 1))), (3, .int (iI (a3 + z68))), (2, .int (iI (a2 + z67))), (1, .int (iI (a1 + 1))), (5, .int (iI z65)), (0, .ref (ad G 0 0))]) hx hb dL_holds_120 hl (k := 4) rfl (by decide) rfl (fun ls hl => ?_)
                    refine lv_goto (tgt := 9) hx hb dL_holds_123 (by decide) ?_
                    exact ih9 (a1 + 1) (a2 + z67) (a3 + z68) (x4 + 1) _ _ ls (by omega) (by omega) (by omega) (by rw [cntI_t (by omega) hly]; omega) (by rcases hp67 with ⟨t, u⟩ | ⟨t, u⟩; (rw [cntI_f (by omega) (fun v => v.2 u)]; omega); (rw [cntI_t (by omega) ⟨hly, u⟩]; omega)) (by rcases hp68 with ⟨t, u⟩ | ⟨t, u⟩; (rw [cntI_f (by omega) (fun v => u v.2)]; omega); (rw [cntI_t (by omega) ⟨hly, u⟩]; omega)) hW (lv_sub hl [0, 1, 2, 3, 5] rfl)
                  · refine r_iconst hx hb dL_holds_110 ?_
                    refine lv_goto (tgt := 115) hx hb dL_holds_111 (by decide) ?_
                    refine r_icmp_eq (tgt := 120) hx hb ⟨by omega, by omega⟩ ⟨by omega, by omega⟩ dL_holds_115 (by decide) (fun q => absurd q (by decide)) (fun _ => ?_)
                    exfalso; omega
                · refine r_iconst hx hb dL_holds_98 ?_
                  refine lv_goto (tgt := 103) hx hb dL_holds_99 (by decide) ?_
                  refine lv_iload hx hb dL_holds_103 (lv_at hl 3 rfl) ?_
                  refine r_bipush hx hb dL_holds_105 (by decide) ?_
                  refine r_icmp_gt (tgt := 114) hx hb rz65 ⟨by omega, by omega⟩ dL_holds_107 (by decide) (fun c76 => ?_) (fun c76 => ?_)
                  · refine r_iconst hx hb dL_holds_114 ?_
                    refine r_icmp_eq (tgt := 120) hx hb ⟨by omega, by omega⟩ ⟨by omega, by omega⟩ dL_holds_115 (by decide) (fun q => absurd q (by decide)) (fun _ => ?_)
                    exfalso; omega
                  · refine r_iconst hx hb dL_holds_110 ?_
                    refine lv_goto (tgt := 115) hx hb dL_holds_111 (by decide) ?_
                    refine r_icmp_eq (tgt := 120) hx hb ⟨by omega, by omega⟩ ⟨by omega, by omega⟩ dL_holds_115 (by decide) (fun _ => ?_) (fun q => absurd q (by decide))
                    skip
                    refine r_iinc (lv' := [(4, .int (iI (x4 + 1))), (3, .int (iI (a3 + z68))), (2, .int (iI (a2 + z67))), (1, .int (iI (a1 + 1))), (5, .int (iI z65)), (0, .ref (ad G 0 0))]) hx hb dL_holds_120 hl (k := 4) rfl (by decide) rfl (fun ls hl => ?_)
                    refine lv_goto (tgt := 9) hx hb dL_holds_123 (by decide) ?_
                    exact ih9 (a1 + 1) (a2 + z67) (a3 + z68) (x4 + 1) _ _ ls (by omega) (by omega) (by omega) (by rw [cntI_t (by omega) hly]; omega) (by rcases hp67 with ⟨t, u⟩ | ⟨t, u⟩; (rw [cntI_f (by omega) (fun v => v.2 u)]; omega); (rw [cntI_t (by omega) ⟨hly, u⟩]; omega)) (by rcases hp68 with ⟨t, u⟩ | ⟨t, u⟩; (rw [cntI_f (by omega) (fun v => u v.2)]; omega); (rw [cntI_t (by omega) ⟨hly, u⟩]; omega)) hW (lv_sub hl [0, 1, 2, 3, 5] rfl)
              · refine lv_iload hx hb dL_holds_80 (lv_at hl 3 rfl) ?_
                refine r_bipush hx hb dL_holds_82 (by decide) ?_
                refine r_icmp_gt (tgt := 118) hx hb rz65 ⟨by omega, by omega⟩ dL_holds_84 (by decide) (fun c77 => ?_) (fun c77 => ?_)
                · exfalso; omega
                · refine lv_aload_n hx hb dL_holds_87 rfl (lv_at hl 5 rfl) ?_
                  refine lv_iload hx hb dL_holds_88 (lv_at hl 4 rfl) ?_
                  refine r_iconst hx hb dL_holds_90 ?_
                  refine k_Vi (j := 0) (k0 := 0) C0 hW (c_X5_row l G w (hO) x4 5 ⟨by omega, by omega⟩ ⟨by omega, by omega⟩) km_L_25 ki_X5_row ke_X5_row kn_X5 kc_X5_row rfl hdV_X5_row ⟨by decide, by decide⟩ (show 0 < 11 ∧ 0 < bs 0 from ⟨by decide, by decide⟩) rfl rfl rfl hl.1 rfl (Nat.le_of_ble_eq_true rfl) dL_holds_91 (fun z78 w78 H1 locs1 rz78 hp78 hW => ?_)
                  have hv78 := cv_row hp78 (by omega)
                  clear hp78
                  obtain ⟨hp78, hq78⟩ := hv78
                  subst hq78
                  replace hp78 := row5 hly hp78
                  have rz78a := rz78.1
                  have rz78b := rz78.2
                  refine r_iconst hx hb dL_holds_94 ?_
                  refine r_icmp_ne (tgt := 102) hx hb rz78 ⟨by omega, by omega⟩ dL_holds_95 (by decide) (fun c79 => ?_) (fun c79 => ?_)
                  · refine r_iconst hx hb dL_holds_102 ?_
                    refine lv_iload hx hb dL_holds_103 (lv_at hl 3 rfl) ?_
                    refine r_bipush hx hb dL_holds_105 (by decide) ?_
                    refine r_icmp_gt (tgt := 114) hx hb rz65 ⟨by omega, by omega⟩ dL_holds_107 (by decide) (fun c80 => ?_) (fun c80 => ?_)
                    · refine r_iconst hx hb dL_holds_114 ?_
                      refine r_icmp_eq (tgt := 120) hx hb ⟨by omega, by omega⟩ ⟨by omega, by omega⟩ dL_holds_115 (by decide) (fun _ => ?_) (fun q => absurd q (by decide))
                      skip
                      refine r_iinc (lv' := [(4, .int (iI (x4 + 1))), (3, .int (iI (a3 + z68))), (2, .int (iI (a2 + z67))), (1, .int (iI (a1 + 1))), (5, .int (iI z65)), (0, .ref (ad G 0 0))]) hx hb dL_holds_120 hl (k := 4) rfl (by decide) rfl (fun ls hl => ?_)
                      refine lv_goto (tgt := 9) hx hb dL_holds_123 (by decide) ?_
                      exact ih9 (a1 + 1) (a2 + z67) (a3 + z68) (x4 + 1) _ _ ls (by omega) (by omega) (by omega) (by rw [cntI_t (by omega) hly]; omega) (by rcases hp67 with ⟨t, u⟩ | ⟨t, u⟩; (rw [cntI_f (by omega) (fun v => v.2 u)]; omega); (rw [cntI_t (by omega) ⟨hly, u⟩]; omega)) (by rcases hp68 with ⟨t, u⟩ | ⟨t, u⟩; (rw [cntI_f (by omega) (fun v => u v.2)]; omega); (rw [cntI_t (by omega) ⟨hly, u⟩]; omega)) hW (lv_sub hl [0, 1, 2, 3, 5] rfl)
                    · refine r_iconst hx hb dL_holds_110 ?_
                      refine lv_goto (tgt := 115) hx hb dL_holds_111 (by decide) ?_
                      refine r_icmp_eq (tgt := 120) hx hb ⟨by omega, by omega⟩ ⟨by omega, by omega⟩ dL_holds_115 (by decide) (fun q => absurd q (by decide)) (fun _ => ?_)
                      exfalso; omega
                  · refine r_iconst hx hb dL_holds_98 ?_
                    refine lv_goto (tgt := 103) hx hb dL_holds_99 (by decide) ?_
                    refine lv_iload hx hb dL_holds_103 (lv_at hl 3 rfl) ?_
                    refine r_bipush hx hb dL_holds_105 (by decide) ?_
                    refine r_icmp_gt (tgt := 114) hx hb rz65 ⟨by omega, by omega⟩ dL_holds_107 (by decide) (fun c81 => ?_) (fun c81 => ?_)
                    · refine r_iconst hx hb dL_holds_114 ?_
                      refine r_icmp_eq (tgt := 120) hx hb ⟨by omega, by omega⟩ ⟨by omega, by omega⟩ dL_holds_115 (by decide) (fun q => absurd q (by decide)) (fun _ => ?_)
                      exfalso; omega
                    · refine r_iconst hx hb dL_holds_110 ?_
                      refine lv_goto (tgt := 115) hx hb dL_holds_111 (by decide) ?_
                      refine r_icmp_eq (tgt := 120) hx hb ⟨by omega, by omega⟩ ⟨by omega, by omega⟩ dL_holds_115 (by decide) (fun _ => ?_) (fun q => absurd q (by decide))
                      skip
                      refine r_iinc (lv' := [(4, .int (iI (x4 + 1))), (3, .int (iI (a3 + z68))), (2, .int (iI (a2 + z67))), (1, .int (iI (a1 + 1))), (5, .int (iI z65)), (0, .ref (ad G 0 0))]) hx hb dL_holds_120 hl (k := 4) rfl (by decide) rfl (fun ls hl => ?_)
                      refine lv_goto (tgt := 9) hx hb dL_holds_123 (by decide) ?_
                      exact ih9 (a1 + 1) (a2 + z67) (a3 + z68) (x4 + 1) _ _ ls (by omega) (by omega) (by omega) (by rw [cntI_t (by omega) hly]; omega) (by rcases hp67 with ⟨t, u⟩ | ⟨t, u⟩; (rw [cntI_f (by omega) (fun v => v.2 u)]; omega); (rw [cntI_t (by omega) ⟨hly, u⟩]; omega)) (by rcases hp68 with ⟨t, u⟩ | ⟨t, u⟩; (rw [cntI_f (by omega) (fun v => u v.2)]; omega); (rw [cntI_t (by omega) ⟨hly, u⟩]; omega)) hW (lv_sub hl [0, 1, 2, 3, 5] rfl)
  exact hL9 121 0 0 0 0 _ _ ls (by omega) (by omega) (by omega) (by rw [cntI_0]) (by rw [cntI_0]) (by rw [cntI_0]) hW (lv_sub hl [0, 1, 2, 3, 4] rfl)
