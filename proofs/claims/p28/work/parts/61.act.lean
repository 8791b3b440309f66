theorem okW_9 {w : gW} {b0 b1 b2 b3 : Nat} (h : okW w b0 b1 b2 b3) (T : gM) (hT : 0 ≤ gN T 0 1 ∧ gN T 0 1 ≤ 60) : okW (up w 9 T) b0 b1 b2 b3 := by
  obtain ⟨h1, h2, h3, h4, -⟩ := h
  have e4 : up w 9 T 4 = w 4 := up_n w T (by decide)
  refine ⟨h1, ?_, fun j hj => ?_, by rw [e4]; exact h4, by rw [up_s]; exact hT⟩
  · unfold hst
    rw [e4]
    exact h2
  · rw [up_n w T (by unfold ms at hj; omega)]
    exact h3 j hj
theorem okW_clear {w w1 : gW} {b0 b1 b2 b3 : Nat} {z : Int} (h : okW w b0 b1 b2 b3) (hp : po_X5_clearText w b0 b1 b2 b3 z w1) : okW w1 b0 b1 b2 b3 := by
  obtain ⟨-, -, e⟩ := hp
  rw [e]
  exact okW_9 h _ ⟨by show (0 : Int) ≤ (iI 0).toInt; decide, by show (iI 0).toInt ≤ (60 : Int); decide⟩
theorem okW_type {w w1 : gW} {b0 b1 b2 b3 : Nat} {v z : Int} (h : okW w b0 b1 b2 b3) (hp : po_X5_type w b0 b1 b2 b3 v z w1) : okW w1 b0 b1 b2 b3 := by
  have hl := h.2.2.2.2
  rcases hp with ⟨-, -, e⟩ | ⟨c, -, e⟩
  · rw [e]; exact h
  · rw [e]
    refine okW_9 h _ ?_
    show 0 ≤ (iI (gN (w 9) 0 1 + 1)).toInt ∧ (iI (gN (w 9) 0 1 + 1)).toInt ≤ 60
    rw [iI_t ⟨by omega, by omega⟩]
    omega
/-! what an act asks -/
def whoF (v : Int) : Int := lowF (shr v 4) (if land (shr v 20) 7 = 0 then 11 else 4)
theorem whoF_in (v : Int) : 0 ≤ whoF v ∧ whoF v ≤ 10 := by
  unfold whoF
  split
  · have := lowF_in (shr v 4) (n := 11) (by omega) (by omega); omega
  · have := lowF_in (shr v 4) (n := 4) (by omega) (by omega); omega
def rowA (M : gM) (v : Int) : Int := if gN M 7 6 = 0 then 0 else lowF (shr v 4) (gN M 7 6 + 1)
theorem rowA_r (M : gM) (v : Int) : inR (rowA M v) := by
  unfold rowA
  split
  · exact inR_0
  · exact lowF_r _ _
/-- L_act: its end -/
def po_L_act (w : gW) (b0 : Nat) (b1 : Nat) (b2 : Nat) (b3 : Nat) (v : Int) (u : Int) : Int → gW → Prop := fun z w1 => ((land v 15 = 0) ∧ (land u 1 = 0) ∧ (po_X5_lend w b0 b1 b2 b3 (lowF (shr v 4) 21) (lowF (shr u 1) 10) z w1)) ∨ ((land v 15 = 0) ∧ (¬ land u 1 = 0) ∧ (po_X5_handOver w b0 b1 b2 b3 (lowF (shr v 4) 21) (lowF (shr u 1) 10) z w1)) ∨ ((land v 15 = 1) ∧ (land u 1 = 0) ∧ (po_X5_setDays w b0 b1 b2 b3 (whoF v) (lowF (shr u 1) 22) z w1)) ∨ ((land v 15 = 1) ∧ (¬ land u 1 = 0) ∧ (po_X5_set w b0 b1 b2 b3 (lowF (shr u 1) 3) (lowF (shr u 3) 8) z w1)) ∨ ((land v 15 = 2 ∨ land v 15 = 3 ∨ land v 15 = 4) ∧ (po_X5_cut w b0 b1 b2 b3 (whoF v) (2 * whoF v + lowF u 4 - 1) z w1)) ∨ ((land v 15 = 5 ∨ land v 15 = 6) ∧ (po_X5_turn w b0 b1 b2 b3 (rowA (w 1) v) z w1)) ∨ ((land v 15 = 7 ∨ land v 15 = 8) ∧ (po_X5_stack w b0 b1 b2 b3 (rowA (w 1) v) z w1)) ∨ ((land v 15 = 9) ∧ (po_X5_settle w b0 b1 b2 b3 z w1)) ∨ ((land v 15 = 10) ∧ (land u 3 = 0) ∧ (po_X5_endYear w b0 b1 b2 b3 z w1)) ∨ ((land v 15 = 10) ∧ (¬ land u 3 = 0) ∧ (po_X5_restore w b0 b1 b2 b3 z w1)) ∨ ((land v 15 = 11) ∧ (∃ (wa wb wc : gW) (za zb zc : Int), po_X5_clearText w b0 b1 b2 b3 za wa ∧ po_X5_type wa b0 b1 b2 b3 (if land u 3 = 0 then 114 else if land u 3 = 1 then 99 else 115) zb wb ∧ po_X5_type wb b0 b1 b2 b3 (chv (50 + lowF (shr u 2) 8)) zc wc ∧ po_X5_passAll wc b0 b1 b2 b3 z w1)) ∨ ((land v 15 < 0 ∨ 11 < land v 15) ∧ (po_X5_pass w b0 b1 b2 b3 (lowF u 4) z w1))
theorem hdS_L_act : yL_act.cls ≠ "java/lang/invoke/MethodHandle" ∧ yL_act.cls ≠ "java/lang/invoke/VarHandle" ∧ (parseMethodDescriptor yL_act.desc).map (fun d => d.parameters.length) = some 3 := by decide +kernel
set_option maxHeartbeats 4000000 in
set_option maxRecDepth 100000 in
theorem c_L_act (l : Launch) (G : gG) (w : gW) {b0 : Nat} {b1 : Nat} {b2 : Nat} {b3 : Nat} (hO : okW w b0 b1 b2 b3) (v : Int) (rv : inR v) (u : Int) (ru : inR u) : mI l G yL_act (wU yL_act cL_act 5 (some .int)) (rmL 7 147) [.ref (ad G 0 0), .int (iI v), .int (iI u)] w (po_L_act w b0 b1 b2 b3 v u) := by
  refine mI_of (by decide +kernel) (Nat.le_of_ble_eq_true rfl) (fun p e s m args below meth c ls C0 hW hl => ?_)
  have hl : lv_has ls 5 [(0, .ref (ad G 0 0)), (1, .int (iI v)), (2, .int (iI u))] := hl
  have hx := C0.hx
  have hb := C0.hb
  obtain ⟨hp4, hh, hwfs, hs4, hl9⟩ := id hO
  have hwf := hwfs 1 ms_1
  have hn0 := hwf.1.1
  have hn1 := hwf.1.2
  refine lv_iload_n hx hb dL_act_0 rfl (lv_at hl 1 rfl) ?_
  refine r_iconst hx hb dL_act_1 ?_
  refine r_ishr hx hb dL_act_2 ?_
  refine lv_iload_n hx hb dL_act_3 rfl (lv_at hl 1 rfl) ?_
  refine r_bipush hx hb dL_act_4 (by decide) ?_
  refine r_ishr hx hb dL_act_6 ?_
  refine r_bipush hx hb dL_act_7 (by decide) ?_
  refine r_iand hx hb dL_act_9 ?_
  refine r_if_ne (tgt := 18) hx hb (land_r _ _) dL_act_10 (by decide) (fun c1 => ?_) (fun c1 => ?_)
  · refine r_iconst hx hb dL_act_18 ?_
    refine k_Si (host := "") C0 hW (As := [.int (iI (shr v 4)), .int (iI 4)]) (c_L_low l G w (shr v 4) 4 (shr_r _ _) ⟨by omega, by omega⟩ (by omega)) km_L_31 ks_L_low kn_L kc_L_low rfl hdS_L_low ⟨by decide, by decide⟩ rfl hl.1 rfl (Nat.le_of_ble_eq_true rfl) dL_act_19 (fun z2 w2 H1 locs1 rz2 hp2 hW => ?_)
    obtain ⟨hp2, hq2⟩ := hp2
    subst hq2
    have rz2a := rz2.1
    have rz2b := rz2.2
    subst hp2
    have rl2 := lowF_in (shr v 4) (n := 4) (by omega) (by omega)
    rw [show (lowF (shr v 4) 4) = whoF v from by unfold whoF; first | rw [if_pos (by assumption)] | rw [if_neg (by assumption)]]
    have hwho := whoF_in v
    refine lv_istore_n (lv' := [(3, .int (iI (whoF v))), (0, .ref (ad G 0 0)), (1, .int (iI v)), (2, .int (iI u))]) hx hb dL_act_22 rfl hl (by decide) rfl (fun ls hl => ?_)
    refine lv_aload_n hx hb dL_act_23 rfl (lv_at hl 1 rfl) ?_
    refine r_iconst hx hb dL_act_24 ?_
    refine k_Vi (j := 0) (k0 := 0) C0 hW (c_X5_count l G w (hO) 3 ⟨by omega, by omega⟩) km_L_12 ki_X5_count ke_X5_count kn_X5 kc_X5_count rfl hdV_X5_count ⟨by decide, by decide⟩ (show 0 < 11 ∧ 0 < bs 0 from ⟨by decide, by decide⟩) rfl rfl rfl hl.1 rfl (Nat.le_of_ble_eq_true rfl) dL_act_25 (fun z3 w3 H1 locs1 rz3 hp3 hW => ?_)
    have hv3 := cv_cnt hp3 rz3 (by omega)
    clear hp3
    obtain ⟨hp3, hq3⟩ := hv3
    subst hq3
    replace hp3 : z3 = gN (w 1) 7 6 := hp3
    have rz3a := rz3.1
    have rz3b := rz3.2
    refine r_if_ne (tgt := 35) hx hb rz3 dL_act_28 (by decide) (fun c4 => ?_) (fun c4 => ?_)
    · refine lv_iload_n hx hb dL_act_35 rfl (lv_at hl 2 rfl) ?_
      refine r_iconst hx hb dL_act_36 ?_
      refine r_ishr hx hb dL_act_37 ?_
      refine lv_aload_n hx hb dL_act_38 rfl (lv_at hl 1 rfl) ?_
      refine r_iconst hx hb dL_act_39 ?_
      refine k_Vi (j := 0) (k0 := 0) C0 hW (c_X5_count l G w (hO) 3 ⟨by omega, by omega⟩) km_L_12 ki_X5_count ke_X5_count kn_X5 kc_X5_count rfl hdV_X5_count ⟨by decide, by decide⟩ (show 0 < 11 ∧ 0 < bs 0 from ⟨by decide, by decide⟩) rfl rfl rfl hl.1 rfl (Nat.le_of_ble_eq_true rfl) dL_act_40 (fun z5 w5 H1 locs1 rz5 hp5 hW => ?_)
      have hv5 := cv_cnt hp5 rz5 (by omega)
      clear hp5
      obtain ⟨hp5, hq5⟩ := hv5
      subst hq5
      replace hp5 : z5 = gN (w 1) 7 6 := hp5
      have rz5a := rz5.1
      have rz5b := rz5.2
      refine r_iconst hx hb dL_act_43 ?_
      refine r_iadd hx hb dL_act_44 ?_
      refine k_Si (host := "") C0 hW (As := [.int (iI (shr v 4)), .int (iI (z5 + 1))]) (c_L_low l G w (shr v 4) (z5 + 1) (shr_r _ _) ⟨by omega, by omega⟩ (by omega)) km_L_31 ks_L_low kn_L kc_L_low rfl hdS_L_low ⟨by decide, by decide⟩ rfl hl.1 rfl (Nat.le_of_ble_eq_true rfl) dL_act_45 (fun z6 w6 H1 locs1 rz6 hp6 hW => ?_)
      obtain ⟨hp6, hq6⟩ := hp6
      subst hq6
      have rz6a := rz6.1
      have rz6b := rz6.2
      subst hp6
      have rl6 := lowF_in (shr v 4) (n := (z5 + 1)) (by omega) (by omega)
      rw [show (lowF (shr v 4) (z5 + 1)) = rowA (w 1) v from by unfold rowA; rw [if_neg (by omega), hp5]]
      refine lv_istore (lv' := [(4, .int (iI (rowA (w 1) v))), (3, .int (iI (whoF v))), (0, .ref (ad G 0 0)), (1, .int (iI v)), (2, .int (iI u))]) hx hb dL_act_48 hl (by decide) rfl (fun ls hl => ?_)
      refine lv_iload_n hx hb dL_act_50 rfl (lv_at hl 3 rfl) ?_
      refine r_bipush hx hb dL_act_51 (by decide) ?_
      refine r_iand hx hb dL_act_53 ?_
      by_cases c7 : (land v 15) < 0 ∨ 11 < (land v 15)
      · refine r_tabOut (tgt := 319) hx hb (land_r _ _) dL_act_54 c7 (by decide) ?_
        refine lv_aload_n hx hb dL_act_319 rfl (lv_at hl 2 rfl) ?_
        refine lv_iload_n hx hb dL_act_320 rfl (lv_at hl 4 rfl) ?_
        refine r_iconst hx hb dL_act_321 ?_
        refine k_Si (host := "") C0 hW (As := [.int (iI u), .int (iI 4)]) (c_L_low l G w u 4 ru ⟨by omega, by omega⟩ (by omega)) km_L_31 ks_L_low kn_L kc_L_low rfl hdS_L_low ⟨by decide, by decide⟩ rfl hl.1 rfl (Nat.le_of_ble_eq_true rfl) dL_act_322 (fun z8 w8 H1 locs1 rz8 hp8 hW => ?_)
        obtain ⟨hp8, hq8⟩ := hp8
        subst hq8
        have rz8a := rz8.1
        have rz8b := rz8.2
        subst hp8
        have rl8 := lowF_in u (n := 4) (by omega) (by omega)
        refine k_Vi (j := 0) (k0 := 0) C0 hW (c_X5_pass l G w (hO) (lowF u 4) (lowF_r _ _)) km_L_77 ki_X5_pass ke_X5_pass kn_X5 kc_X5_pass rfl hdV_X5_pass ⟨by decide, by decide⟩ (show 0 < 11 ∧ 0 < bs 0 from ⟨by decide, by decide⟩) rfl rfl rfl hl.1 rfl (Nat.le_of_ble_eq_true rfl) dL_act_325 (fun z9 w9 H1 locs1 rz9 hp9 hW => ?_)
        have rz9a := rz9.1
        have rz9b := rz9.2
        exact r_iret C0 hW rz9 (by exact Or.inr (Or.inr (Or.inr (Or.inr (Or.inr (Or.inr (Or.inr (Or.inr (Or.inr (Or.inr (Or.inr (⟨by first | assumption | omega, hp9⟩)))))))))))) dL_act_328
      have c7 : (land v 15) = 0 ∨ (land v 15) = 1 ∨ (land v 15) = 2 ∨ (land v 15) = 3 ∨ (land v 15) = 4 ∨ (land v 15) = 5 ∨ (land v 15) = 6 ∨ (land v 15) = 7 ∨ (land v 15) = 8 ∨ (land v 15) = 9 ∨ (land v 15) = 10 ∨ (land v 15) = 11 := by omega
      rcases c7 with c7 | c7 | c7 | c7 | c7 | c7 | c7 | c7 | c7 | c7 | c7 | c7
      · refine r_tabIn (tgt := 116) hx hb (land_r _ _) dL_act_54 (by omega) (by omega) (by rw [c7]; rfl) (by decide) ?_
        refine lv_iload_n hx hb dL_act_116 rfl (lv_at hl 4 rfl) ?_
        refine r_iconst hx hb dL_act_117 ?_
        refine r_iand hx hb dL_act_118 ?_
        refine r_if_ne (tgt := 145) hx hb (land_r _ _) dL_act_119 (by decide) (fun c10 => ?_) (fun c10 => ?_)
        · refine lv_aload_n hx hb dL_act_145 rfl (lv_at hl 2 rfl) ?_
          refine lv_iload_n hx hb dL_act_146 rfl (lv_at hl 3 rfl) ?_
          refine r_iconst hx hb dL_act_147 ?_
          refine r_ishr hx hb dL_act_148 ?_
          refine r_bipush hx hb dL_act_149 (by decide) ?_
          refine k_Si (host := "") C0 hW (As := [.int (iI (shr v 4)), .int (iI 21)]) (c_L_low l G w (shr v 4) 21 (shr_r _ _) ⟨by omega, by omega⟩ (by omega)) km_L_31 ks_L_low kn_L kc_L_low rfl hdS_L_low ⟨by decide, by decide⟩ rfl hl.1 rfl (Nat.le_of_ble_eq_true rfl) dL_act_151 (fun z11 w11 H1 locs1 rz11 hp11 hW => ?_)
          obtain ⟨hp11, hq11⟩ := hp11
          subst hq11
          have rz11a := rz11.1
          have rz11b := rz11.2
          subst hp11
          have rl11 := lowF_in (shr v 4) (n := 21) (by omega) (by omega)
          refine lv_iload_n hx hb dL_act_154 rfl (lv_at hl 4 rfl) ?_
          refine r_iconst hx hb dL_act_155 ?_
          refine r_ishr hx hb dL_act_156 ?_
          refine r_bipush hx hb dL_act_157 (by decide) ?_
          refine k_Si (host := "") C0 hW (As := [.int (iI (shr u 1)), .int (iI 10)]) (c_L_low l G w (shr u 1) 10 (shr_r _ _) ⟨by omega, by omega⟩ (by omega)) km_L_31 ks_L_low kn_L kc_L_low rfl hdS_L_low ⟨by decide, by decide⟩ rfl hl.1 rfl (Nat.le_of_ble_eq_true rfl) dL_act_159 (fun z12 w12 H1 locs1 rz12 hp12 hW => ?_)
          obtain ⟨hp12, hq12⟩ := hp12
          subst hq12
          have rz12a := rz12.1
          have rz12b := rz12.2
          subst hp12
          have rl12 := lowF_in (shr u 1) (n := 10) (by omega) (by omega)
          refine k_Vi (j := 0) (k0 := 0) C0 hW (c_X5_handOver l G w (hO) (lowF (shr v 4) 21) (lowF (shr u 1) 10) (lowF_r _ _) (lowF_r _ _)) km_L_39 ki_X5_handOver ke_X5_handOver kn_X5 kc_X5_handOver rfl hdV_X5_handOver ⟨by decide, by decide⟩ (show 0 < 11 ∧ 0 < bs 0 from ⟨by decide, by decide⟩) rfl rfl rfl hl.1 rfl (Nat.le_of_ble_eq_true rfl) dL_act_162 (fun z13 w13 H1 locs1 rz13 hp13 hW => ?_)
          have rz13a := rz13.1
          have rz13b := rz13.2
          exact r_iret C0 hW rz13 (by exact Or.inr (Or.inl (⟨by first | assumption | omega, by first | assumption | omega, hp13⟩))) dL_act_165
        · refine lv_aload_n hx hb dL_act_122 rfl (lv_at hl 2 rfl) ?_
          refine lv_iload_n hx hb dL_act_123 rfl (lv_at hl 3 rfl) ?_
          refine r_iconst hx hb dL_act_124 ?_
          refine r_ishr hx hb dL_act_125 ?_
          refine r_bipush hx hb dL_act_126 (by decide) ?_
          refine k_Si (host := "") C0 hW (As := [.int (iI (shr v 4)), .int (iI 21)]) (c_L_low l G w (shr v 4) 21 (shr_r _ _) ⟨by omega, by omega⟩ (by omega)) km_L_31 ks_L_low kn_L kc_L_low rfl hdS_L_low ⟨by decide, by decide⟩ rfl hl.1 rfl (Nat.le_of_ble_eq_true rfl) dL_act_128 (fun z14 w14 H1 locs1 rz14 hp14 hW => ?_)
          obtain ⟨hp14, hq14⟩ := hp14
          subst hq14
          have rz14a := rz14.1
          have rz14b := rz14.2
          subst hp14
          have rl14 := lowF_in (shr v 4) (n := 21) (by omega) (by omega)
          refine lv_iload_n hx hb dL_act_131 rfl (lv_at hl 4 rfl) ?_
          refine r_iconst hx hb dL_act_132 ?_
          refine r_ishr hx hb dL_act_133 ?_
          refine r_bipush hx hb dL_act_134 (by decide) ?_
          refine k_Si (host := "") C0 hW (As := [.int (iI (shr u 1)), .int (iI 10)]) (c_L_low l G w (shr u 1) 10 (shr_r _ _) ⟨by omega, by omega⟩ (by omega)) km_L_31 ks_L_low kn_L kc_L_low rfl hdS_L_low ⟨by decide, by decide⟩ rfl hl.1 rfl (Nat.le_of_ble_eq_true rfl) dL_act_136 (fun z15 w15 H1 locs1 rz15 hp15 hW => ?_)
          obtain ⟨hp15, hq15⟩ := hp15
          subst hq15
          have rz15a := rz15.1
          have rz15b := rz15.2
          subst hp15
          have rl15 := lowF_in (shr u 1) (n := 10) (by omega) (by omega)
          refine k_Vi (j := 0) (k0 := 0) C0 hW (c_X5_lend l G w (hO) (lowF (shr v 4) 21) (lowF (shr u 1) 10) (lowF_r _ _) (lowF_r _ _)) km_L_36 ki_X5_lend ke_X5_lend kn_X5 kc_X5_lend rfl hdV_X5_lend ⟨by decide, by decide⟩ (show 0 < 11 ∧ 0 < bs 0 from ⟨by decide, by decide⟩) rfl rfl rfl hl.1 rfl (Nat.le_of_ble_eq_true rfl) dL_act_139 (fun z16 w16 H1 locs1 rz16 hp16 hW => ?_)
          have rz16a := rz16.1
          have rz16b := rz16.2
          refine lv_goto (tgt := 165) hx hb dL_act_142 (by decide) ?_
          exact r_iret C0 hW rz16 (by exact Or.inl (⟨by first | assumption | omega, by first | assumption | omega, hp16⟩)) dL_act_165
      · refine r_tabIn (tgt := 166) hx hb (land_r _ _) dL_act_54 (by omega) (by omega) (by rw [c7]; rfl) (by decide) ?_
        refine lv_iload_n hx hb dL_act_166 rfl (lv_at hl 4 rfl) ?_
        refine r_iconst hx hb dL_act_167 ?_
        refine r_iand hx hb dL_act_168 ?_
        refine r_if_ne (tgt := 188) hx hb (land_r _ _) dL_act_169 (by decide) (fun c17 => ?_) (fun c17 => ?_)
        · refine lv_aload_n hx hb dL_act_188 rfl (lv_at hl 2 rfl) ?_
          refine lv_iload_n hx hb dL_act_189 rfl (lv_at hl 4 rfl) ?_
          refine r_iconst hx hb dL_act_190 ?_
          refine r_ishr hx hb dL_act_191 ?_
          refine r_iconst hx hb dL_act_192 ?_
          refine k_Si (host := "") C0 hW (As := [.int (iI (shr u 1)), .int (iI 3)]) (c_L_low l G w (shr u 1) 3 (shr_r _ _) ⟨by omega, by omega⟩ (by omega)) km_L_31 ks_L_low kn_L kc_L_low rfl hdS_L_low ⟨by decide, by decide⟩ rfl hl.1 rfl (Nat.le_of_ble_eq_true rfl) dL_act_193 (fun z18 w18 H1 locs1 rz18 hp18 hW => ?_)
          obtain ⟨hp18, hq18⟩ := hp18
          subst hq18
          have rz18a := rz18.1
          have rz18b := rz18.2
          subst hp18
          have rl18 := lowF_in (shr u 1) (n := 3) (by omega) (by omega)
          refine lv_iload_n hx hb dL_act_196 rfl (lv_at hl 4 rfl) ?_
          refine r_iconst hx hb dL_act_197 ?_
          refine r_ishr hx hb dL_act_198 ?_
          refine r_bipush hx hb dL_act_199 (by decide) ?_
          refine k_Si (host := "") C0 hW (As := [.int (iI (shr u 3)), .int (iI 8)]) (c_L_low l G w (shr u 3) 8 (shr_r _ _) ⟨by omega, by omega⟩ (by omega)) km_L_31 ks_L_low kn_L kc_L_low rfl hdS_L_low ⟨by decide, by decide⟩ rfl hl.1 rfl (Nat.le_of_ble_eq_true rfl) dL_act_201 (fun z19 w19 H1 locs1 rz19 hp19 hW => ?_)
          obtain ⟨hp19, hq19⟩ := hp19
          subst hq19
          have rz19a := rz19.1
          have rz19b := rz19.2
          subst hp19
          have rl19 := lowF_in (shr u 3) (n := 8) (by omega) (by omega)
          refine k_Vi (j := 0) (k0 := 0) C0 hW (c_X5_set l G w (hO) (lowF (shr u 1) 3) (lowF (shr u 3) 8) (lowF_r _ _) (lowF_r _ _)) km_L_45 ki_X5_set ke_X5_set kn_X5 kc_X5_set rfl hdV_X5_set ⟨by decide, by decide⟩ (show 0 < 11 ∧ 0 < bs 0 from ⟨by decide, by decide⟩) rfl rfl rfl hl.1 rfl (Nat.le_of_ble_eq_true rfl) dL_act_204 (fun z20 w20 H1 locs1 rz20 hp20 hW => ?_)
          have rz20a := rz20.1
          have rz20b := rz20.2
          exact r_iret C0 hW rz20 (by exact Or.inr (Or.inr (Or.inr (Or.inl (⟨by first | assumption | omega, by first | assumption | omega, hp20⟩))))) dL_act_207
        · refine lv_aload_n hx hb dL_act_172 rfl (lv_at hl 2 rfl) ?_
          refine lv_iload_n hx hb dL_act_173 rfl (lv_at hl 1 rfl) ?_
          refine lv_iload_n hx hb dL_act_174 rfl (lv_at hl 4 rfl) ?_
          refine r_iconst hx hb dL_act_175 ?_
          refine r_ishr hx hb dL_act_176 ?_
          refine r_bipush hx hb dL_act_177 (by decide) ?_
          refine k_Si (host := "") C0 hW (As := [.int (iI (shr u 1)), .int (iI 22)]) (c_L_low l G w (shr u 1) 22 (shr_r _ _) ⟨by omega, by omega⟩ (by omega)) km_L_31 ks_L_low kn_L kc_L_low rfl hdS_L_low ⟨by decide, by decide⟩ rfl hl.1 rfl (Nat.le_of_ble_eq_true rfl) dL_act_179 (fun z21 w21 H1 locs1 rz21 hp21 hW => ?_)
          obtain ⟨hp21, hq21⟩ := hp21
          subst hq21
          have rz21a := rz21.1
          have rz21b := rz21.2
          subst hp21
          have rl21 := lowF_in (shr u 1) (n := 22) (by omega) (by omega)
          refine k_Vi (j := 0) (k0 := 0) C0 hW (c_X5_setDays l G w (hO) (whoF v) (lowF (shr u 1) 22) (lowF_r _ _) (lowF_r _ _)) km_L_42 ki_X5_setDays ke_X5_setDays kn_X5 kc_X5_setDays rfl hdV_X5_setDays ⟨by decide, by decide⟩ (show 0 < 11 ∧ 0 < bs 0 from ⟨by decide, by decide⟩) rfl rfl rfl hl.1 rfl (Nat.le_of_ble_eq_true rfl) dL_act_182 (fun z22 w22 H1 locs1 rz22 hp22 hW => ?_)
          have rz22a := rz22.1
          have rz22b := rz22.2
          refine lv_goto (tgt := 207) hx hb dL_act_185 (by decide) ?_
          exact r_iret C0 hW rz22 (by exact Or.inr (Or.inr (Or.inl (⟨by first | assumption | omega, by first | assumption | omega, hp22⟩)))) dL_act_207
      · refine r_tabIn (tgt := 208) hx hb (land_r _ _) dL_act_54 (by omega) (by omega) (by rw [c7]; rfl) (by decide) ?_
        refine lv_aload_n hx hb dL_act_208 rfl (lv_at hl 2 rfl) ?_
        refine lv_iload_n hx hb dL_act_209 rfl (lv_at hl 1 rfl) ?_
        refine r_iconst hx hb dL_act_210 ?_
        refine lv_iload_n hx hb dL_act_211 rfl (lv_at hl 1 rfl) ?_
        refine r_imul hx hb dL_act_212 ?_
        refine lv_iload_n hx hb dL_act_213 rfl (lv_at hl 4 rfl) ?_
        refine r_iconst hx hb dL_act_214 ?_
        refine k_Si (host := "") C0 hW (As := [.int (iI u), .int (iI 4)]) (c_L_low l G w u 4 ru ⟨by omega, by omega⟩ (by omega)) km_L_31 ks_L_low kn_L kc_L_low rfl hdS_L_low ⟨by decide, by decide⟩ rfl hl.1 rfl (Nat.le_of_ble_eq_true rfl) dL_act_215 (fun z23 w23 H1 locs1 rz23 hp23 hW => ?_)
        obtain ⟨hp23, hq23⟩ := hp23
        subst hq23
        have rz23a := rz23.1
        have rz23b := rz23.2
        subst hp23
        have rl23 := lowF_in u (n := 4) (by omega) (by omega)
        refine r_iadd hx hb dL_act_218 ?_
        refine r_iconst hx hb dL_act_219 ?_
        refine r_isub hx hb dL_act_220 ?_
        refine k_Vi (j := 0) (k0 := 0) C0 hW (c_X5_cut l G w (hO) (whoF v) (((2 * (whoF v)) + (lowF u 4)) - 1) (lowF_r _ _) ⟨by omega, by omega⟩) km_L_48 ki_X5_cut ke_X5_cut kn_X5 kc_X5_cut rfl hdV_X5_cut ⟨by decide, by decide⟩ (show 0 < 11 ∧ 0 < bs 0 from ⟨by decide, by decide⟩) rfl rfl rfl hl.1 rfl (Nat.le_of_ble_eq_true rfl) dL_act_221 (fun z24 w24 H1 locs1 rz24 hp24 hW => ?_)
        have rz24a := rz24.1
        have rz24b := rz24.2
        exact r_iret C0 hW rz24 (by exact Or.inr (Or.inr (Or.inr (Or.inr (Or.inl (⟨by first | assumption | omega, hp24⟩)))))) dL_act_224
      · refine r_tabIn (tgt := 208) hx hb (land_r _ _) dL_act_54 (by omega) (by omega) (by rw [c7]; rfl) (by decide) ?_
        refine lv_aload_n hx hb dL_act_208 rfl (lv_at hl 2 rfl) ?_
        refine lv_iload_n hx hb dL_act_209 rfl (lv_at hl 1 rfl) ?_
        refine r_iconst hx hb dL_act_210 ?_
        refine lv_iload_n hx hb dL_act_211 rfl (lv_at hl 1 rfl) ?_
        refine r_imul hx hb dL_act_212 ?_
        refine lv_iload_n hx hb dL_act_213 rfl (lv_at hl 4 rfl) ?_
        refine r_iconst hx hb dL_act_214 ?_
        refine k_Si (host := "") C0 hW (As := [.int (iI u), .int (iI 4)]) (c_L_low l G w u 4 ru ⟨by omega, by omega⟩ (by omega)) km_L_31 ks_L_low kn_L kc_L_low rfl hdS_L_low ⟨by decide, by decide⟩ rfl hl.1 rfl (Nat.le_of_ble_eq_true rfl) dL_act_215 (fun z25 w25 H1 locs1 rz25 hp25 hW => ?_)
        obtain ⟨hp25, hq25⟩ := hp25
        subst hq25
        have rz25a := rz25.1
        have rz25b := rz25.2
        subst hp25
        have rl25 := lowF_in u (n := 4) (by omega) (by omega)
        refine r_iadd hx hb dL_act_218 ?_
        refine r_iconst hx hb dL_act_219 ?_
        refine r_isub hx hb dL_act_220 ?_
        refine k_Vi (j := 0) (k0 := 0) C0 hW (c_X5_cut l G w (hO) (whoF v) (((2 * (whoF v)) + (lowF u 4)) - 1) (lowF_r _ _) ⟨by omega, by omega⟩) km_L_48 ki_X5_cut ke_X5_cut kn_X5 kc_X5_cut rfl hdV_X5_cut ⟨by decide, by decide⟩ (show 0 < 11 ∧ 0 < bs 0 from ⟨by decide, by decide⟩) rfl rfl rfl hl.1 rfl (Nat.le_of_ble_eq_true rfl) dL_act_221 (fun z26 w26 H1 locs1 rz26 hp26 hW => ?_)
        have rz26a := rz26.1
        have rz26b := rz26.2
        exact r_iret C0 hW rz26 (by exact Or.inr (Or.inr (Or.inr (Or.inr (Or.inl (⟨by first | assumption | omega, hp26⟩)))))) dL_act_224
      · refine r_tabIn (tgt := 208) hx hb (land_r _ _) dL_act_54 (by omega) (by omega) (by rw [c7]; rfl) (by decide) ?_
        refine lv_aload_n hx hb dL_act_208 rfl (lv_at hl 2 rfl) ?_
        refine lv_iload_n hx hb dL_act_209 rfl (lv_at hl 1 rfl) ?_
        refine r_iconst hx hb dL_act_210 ?_
        refine lv_iload_n hx hb dL_act_211 rfl (lv_at hl 1 rfl) ?_
        refine r_imul hx hb dL_act_212 ?_
        refine lv_iload_n hx hb dL_act_213 rfl (lv_at hl 4 rfl) ?_
        refine r_iconst hx hb dL_act_214 ?_
        refine k_Si (host := "") C0 hW (As := [.int (iI u), .int (iI 4)]) (c_L_low l G w u 4 ru ⟨by omega, by omega⟩ (by omega)) km_L_31 ks_L_low kn_L kc_L_low rfl hdS_L_low ⟨by decide, by decide⟩ rfl hl.1 rfl (Nat.le_of_ble_eq_true rfl) dL_act_215 (fun z27 w27 H1 locs1 rz27 hp27 hW => ?_)
        obtain ⟨hp27, hq27⟩ := hp27
        subst hq27
        have rz27a := rz27.1
        have rz27b := rz27.2
        subst hp27
        have rl27 := lowF_in u (n := 4) (by omega) (by omega)
        refine r_iadd hx hb dL_act_218 ?_
        refine r_iconst hx hb dL_act_219 ?_
        refine r_isub hx hb dL_act_220 ?_
        refine k_Vi (j := 0) (k0 := 0) C0 hW (c_X5_cut l G w (hO) (whoF v) (((2 * (whoF v)) + (lowF u 4)) - 1) (lowF_r _ _) ⟨by omega, by omega⟩) km_L_48 ki_X5_cut ke_X5_cut kn_X5 kc_X5_cut rfl hdV_X5_cut ⟨by decide, by decide⟩ (show 0 < 11 ∧ 0 < bs 0 from ⟨by decide, by decide⟩) rfl rfl rfl hl.1 rfl (Nat.le_of_ble_eq_true rfl) dL_act_221 (fun z28 w28 H1 locs1 rz28 hp28 hW => ?_)
        have rz28a := rz28.1
        have rz28b := rz28.2
        exact r_iret C0 hW rz28 (by exact Or.inr (Or.inr (Or.inr (Or.inr (Or.inl (⟨by first | assumption | omega, hp28⟩)))))) dL_act_224
      · refine r_tabIn (tgt := 225) hx hb (land_r _ _) dL_act_54 (by omega) (by omega) (by rw [c7]; rfl) (by decide) ?_
        refine lv_aload_n hx hb dL_act_225 rfl (lv_at hl 2 rfl) ?_
        refine lv_iload hx hb dL_act_226 (lv_at hl 0 rfl) ?_
        refine k_Vi (j := 0) (k0 := 0) C0 hW (c_X5_turn l G w (hO) (rowA (w 1) v) (rowA_r _ _)) km_L_51 ki_X5_turn ke_X5_turn kn_X5 kc_X5_turn rfl hdV_X5_turn ⟨by decide, by decide⟩ (show 0 < 11 ∧ 0 < bs 0 from ⟨by decide, by decide⟩) rfl rfl rfl hl.1 rfl (Nat.le_of_ble_eq_true rfl) dL_act_228 (fun z29 w29 H1 locs1 rz29 hp29 hW => ?_)
        have rz29a := rz29.1
        have rz29b := rz29.2
        exact r_iret C0 hW rz29 (by exact Or.inr (Or.inr (Or.inr (Or.inr (Or.inr (Or.inl (⟨by first | assumption | omega, hp29⟩))))))) dL_act_231
      · refine r_tabIn (tgt := 225) hx hb (land_r _ _) dL_act_54 (by omega) (by omega) (by rw [c7]; rfl) (by decide) ?_
        refine lv_aload_n hx hb dL_act_225 rfl (lv_at hl 2 rfl) ?_
        refine lv_iload hx hb dL_act_226 (lv_at hl 0 rfl) ?_
        refine k_Vi (j := 0) (k0 := 0) C0 hW (c_X5_turn l G w (hO) (rowA (w 1) v) (rowA_r _ _)) km_L_51 ki_X5_turn ke_X5_turn kn_X5 kc_X5_turn rfl hdV_X5_turn ⟨by decide, by decide⟩ (show 0 < 11 ∧ 0 < bs 0 from ⟨by decide, by decide⟩) rfl rfl rfl hl.1 rfl (Nat.le_of_ble_eq_true rfl) dL_act_228 (fun z30 w30 H1 locs1 rz30 hp30 hW => ?_)
        have rz30a := rz30.1
        have rz30b := rz30.2
        exact r_iret C0 hW rz30 (by exact Or.inr (Or.inr (Or.inr (Or.inr (Or.inr (Or.inl (⟨by first | assumption | omega, hp30⟩))))))) dL_act_231
      · refine r_tabIn (tgt := 232) hx hb (land_r _ _) dL_act_54 (by omega) (by omega) (by rw [c7]; rfl) (by decide) ?_
        refine lv_aload_n hx hb dL_act_232 rfl (lv_at hl 2 rfl) ?_
        refine lv_iload hx hb dL_act_233 (lv_at hl 0 rfl) ?_
        refine k_Vi (j := 0) (k0 := 0) C0 hW (c_X5_stack l G w (hO) (rowA (w 1) v) (rowA_r _ _)) km_L_54 ki_X5_stack ke_X5_stack kn_X5 kc_X5_stack rfl hdV_X5_stack ⟨by decide, by decide⟩ (show 0 < 11 ∧ 0 < bs 0 from ⟨by decide, by decide⟩) rfl rfl rfl hl.1 rfl (Nat.le_of_ble_eq_true rfl) dL_act_235 (fun z31 w31 H1 locs1 rz31 hp31 hW => ?_)
        have rz31a := rz31.1
        have rz31b := rz31.2
        exact r_iret C0 hW rz31 (by exact Or.inr (Or.inr (Or.inr (Or.inr (Or.inr (Or.inr (Or.inl (⟨by first | assumption | omega, hp31⟩)))))))) dL_act_238
      · refine r_tabIn (tgt := 232) hx hb (land_r _ _) dL_act_54 (by omega) (by omega) (by rw [c7]; rfl) (by decide) ?_
        refine lv_aload_n hx hb dL_act_232 rfl (lv_at hl 2 rfl) ?_
        refine lv_iload hx hb dL_act_233 (lv_at hl 0 rfl) ?_
        refine k_Vi (j := 0) (k0 := 0) C0 hW (c_X5_stack l G w (hO) (rowA (w 1) v) (rowA_r _ _)) km_L_54 ki_X5_stack ke_X5_stack kn_X5 kc_X5_stack rfl hdV_X5_stack ⟨by decide, by decide⟩ (show 0 < 11 ∧ 0 < bs 0 from ⟨by decide, by decide⟩) rfl rfl rfl hl.1 rfl (Nat.le_of_ble_eq_true rfl) dL_act_235 (fun z32 w32 H1 locs1 rz32 hp32 hW => ?_)
        have rz32a := rz32.1
        have rz32b := rz32.2
        exact r_iret C0 hW rz32 (by exact Or.inr (Or.inr (Or.inr (Or.inr (Or.inr (Or.inr (Or.inl (⟨by first | assumption | omega, hp32⟩)))))))) dL_act_238
      · refine r_tabIn (tgt := 239) hx hb (land_r _ _) dL_act_54 (by omega) (by omega) (by rw [c7]; rfl) (by decide) ?_
        refine lv_aload_n hx hb dL_act_239 rfl (lv_at hl 2 rfl) ?_
        refine k_Vi (j := 0) (k0 := 0) C0 hW (c_X5_settle l G w (hO)) km_L_57 ki_X5_settle ke_X5_settle kn_X5 kc_X5_settle rfl hdV_X5_settle ⟨by decide, by decide⟩ (show 0 < 11 ∧ 0 < bs 0 from ⟨by decide, by decide⟩) rfl rfl rfl hl.1 rfl (Nat.le_of_ble_eq_true rfl) dL_act_240 (fun z33 w33 H1 locs1 rz33 hp33 hW => ?_)
        have rz33a := rz33.1
        have rz33b := rz33.2
        exact r_iret C0 hW rz33 (by exact Or.inr (Or.inr (Or.inr (Or.inr (Or.inr (Or.inr (Or.inr (Or.inl (⟨by first | assumption | omega, hp33⟩))))))))) dL_act_243
      · refine r_tabIn (tgt := 244) hx hb (land_r _ _) dL_act_54 (by omega) (by omega) (by rw [c7]; rfl) (by decide) ?_
        refine lv_iload_n hx hb dL_act_244 rfl (lv_at hl 4 rfl) ?_
        refine r_iconst hx hb dL_act_245 ?_
        refine r_iand hx hb dL_act_246 ?_
        refine r_if_ne (tgt := 257) hx hb (land_r _ _) dL_act_247 (by decide) (fun c34 => ?_) (fun c34 => ?_)
        · refine lv_aload_n hx hb dL_act_257 rfl (lv_at hl 2 rfl) ?_
          refine k_Vi (j := 0) (k0 := 0) C0 hW (c_X5_restore l G w (hO)) km_L_64 ki_X5_restore ke_X5_restore kn_X5 kc_X5_restore rfl hdV_X5_restore ⟨by decide, by decide⟩ (show 0 < 11 ∧ 0 < bs 0 from ⟨by decide, by decide⟩) rfl rfl rfl hl.1 rfl (Nat.le_of_ble_eq_true rfl) dL_act_258 (fun z35 w35 H1 locs1 rz35 hp35 hW => ?_)
          have rz35a := rz35.1
          have rz35b := rz35.2
          exact r_iret C0 hW rz35 (by exact Or.inr (Or.inr (Or.inr (Or.inr (Or.inr (Or.inr (Or.inr (Or.inr (Or.inr (Or.inl (⟨by first | assumption | omega, by first | assumption | omega, hp35⟩))))))))))) dL_act_261
        · refine lv_aload_n hx hb dL_act_250 rfl (lv_at hl 2 rfl) ?_
          refine k_Vi (j := 0) (k0 := 0) C0 hW (c_X5_endYear l G w (hO)) km_L_61 ki_X5_endYear ke_X5_endYear kn_X5 kc_X5_endYear rfl hdV_X5_endYear ⟨by decide, by decide⟩ (show 0 < 11 ∧ 0 < bs 0 from ⟨by decide, by decide⟩) rfl rfl rfl hl.1 rfl (Nat.le_of_ble_eq_true rfl) dL_act_251 (fun z36 w36 H1 locs1 rz36 hp36 hW => ?_)
          have rz36a := rz36.1
          have rz36b := rz36.2
          refine lv_goto (tgt := 261) hx hb dL_act_254 (by decide) ?_
          exact r_iret C0 hW rz36 (by exact Or.inr (Or.inr (Or.inr (Or.inr (Or.inr (Or.inr (Or.inr (Or.inr (Or.inl (⟨by first | assumption | omega, by first | assumption | omega, hp36⟩)))))))))) dL_act_261
      · refine r_tabIn (tgt := 262) hx hb (land_r _ _) dL_act_54 (by omega) (by omega) (by rw [c7]; rfl) (by decide) ?_
        refine lv_aload_n hx hb dL_act_262 rfl (lv_at hl 2 rfl) ?_
        refine k_Vi (j := 0) (k0 := 0) C0 hW (c_X5_clearText l G w (hO)) km_L_67 ki_X5_clearText ke_X5_clearText kn_X5 kc_X5_clearText rfl hdV_X5_clearText ⟨by decide, by decide⟩ (show 0 < 11 ∧ 0 < bs 0 from ⟨by decide, by decide⟩) rfl rfl rfl hl.1 rfl (Nat.le_of_ble_eq_true rfl) dL_act_263 (fun z37 w37 H1 locs1 rz37 hp37 hW => ?_)
        have rz37a := rz37.1
        have rz37b := rz37.2
        have hO := okW_clear hO hp37
        refine lv_pop hx hb dL_act_266 rfl ?_
        refine lv_aload_n hx hb dL_act_267 rfl (lv_at hl 2 rfl) ?_
        refine lv_iload_n hx hb dL_act_268 rfl (lv_at hl 4 rfl) ?_
        refine r_iconst hx hb dL_act_269 ?_
        refine r_iand hx hb dL_act_270 ?_
        refine r_if_ne (tgt := 279) hx hb (land_r _ _) dL_act_271 (by decide) (fun c38 => ?_) (fun c38 => ?_)
        · refine lv_iload_n hx hb dL_act_279 rfl (lv_at hl 4 rfl) ?_
          refine r_iconst hx hb dL_act_280 ?_
          refine r_iand hx hb dL_act_281 ?_
          refine r_iconst hx hb dL_act_282 ?_
          refine r_icmp_ne (tgt := 291) hx hb (land_r _ _) ⟨by omega, by omega⟩ dL_act_283 (by decide) (fun c39 => ?_) (fun c39 => ?_)
          · refine r_bipush hx hb dL_act_291 (by decide) ?_
            have hnar : vp_nar .char (iI 115) = iI 115 := rfl
            refine k_Vi (j := 0) (k0 := 0) C0 hW (c_X5_type l G w37 (hO) 115 ⟨by omega, by omega⟩ (hnar)) km_L_70 ki_X5_type ke_X5_type kn_X5 kc_X5_type rfl hdV_X5_type ⟨by decide, by decide⟩ (show 0 < 11 ∧ 0 < bs 0 from ⟨by decide, by decide⟩) rfl rfl rfl hl.1 rfl (Nat.le_of_ble_eq_true rfl) dL_act_293 (fun z40 w40 H1 locs1 rz40 hp40 hW => ?_)
            have rz40a := rz40.1
            have rz40b := rz40.2
            have hO := okW_type hO hp40
            refine lv_pop hx hb dL_act_296 rfl ?_
            refine lv_aload_n hx hb dL_act_297 rfl (lv_at hl 2 rfl) ?_
            refine r_bipush hx hb dL_act_298 (by decide) ?_
            refine lv_iload_n hx hb dL_act_300 rfl (lv_at hl 4 rfl) ?_
            refine r_iconst hx hb dL_act_301 ?_
            refine r_ishr hx hb dL_act_302 ?_
            refine r_bipush hx hb dL_act_303 (by decide) ?_
            refine k_Si (host := "") C0 hW (As := [.int (iI (shr u 2)), .int (iI 8)]) (c_L_low l G w40 (shr u 2) 8 (shr_r _ _) ⟨by omega, by omega⟩ (by omega)) km_L_31 ks_L_low kn_L kc_L_low rfl hdS_L_low ⟨by decide, by decide⟩ rfl hl.1 rfl (Nat.le_of_ble_eq_true rfl) dL_act_305 (fun z41 w41 H1 locs1 rz41 hp41 hW => ?_)
            obtain ⟨hp41, hq41⟩ := hp41
            subst hq41
            have rz41a := rz41.1
            have rz41b := rz41.2
            subst hp41
            have rl41 := lowF_in (shr u 2) (n := 8) (by omega) (by omega)
            refine r_iadd hx hb dL_act_308 ?_
            refine r_i2c hx hb dL_act_309 ?_
            have hnar : vp_nar .char (iI (chv (50 + (lowF (shr u 2) 8)))) = iI (chv (50 + (lowF (shr u 2) 8))) := chv_n _
            refine k_Vi (j := 0) (k0 := 0) C0 hW (c_X5_type l G w40 (hO) (chv (50 + (lowF (shr u 2) 8))) (chv_r _) (hnar)) km_L_70 ki_X5_type ke_X5_type kn_X5 kc_X5_type rfl hdV_X5_type ⟨by decide, by decide⟩ (show 0 < 11 ∧ 0 < bs 0 from ⟨by decide, by decide⟩) rfl rfl rfl hl.1 rfl (Nat.le_of_ble_eq_true rfl) dL_act_310 (fun z42 w42 H1 locs1 rz42 hp42 hW => ?_)
            have rz42a := rz42.1
            have rz42b := rz42.2
            have hO := okW_type hO hp42
            refine lv_pop hx hb dL_act_313 rfl ?_
            refine lv_aload_n hx hb dL_act_314 rfl (lv_at hl 2 rfl) ?_
            refine k_Vi (j := 0) (k0 := 0) C0 hW (c_X5_passAll l G w42 (hO)) km_L_74 ki_X5_passAll ke_X5_passAll kn_X5 kc_X5_passAll rfl hdV_X5_passAll ⟨by decide, by decide⟩ (show 0 < 11 ∧ 0 < bs 0 from ⟨by decide, by decide⟩) rfl rfl rfl hl.1 rfl (Nat.le_of_ble_eq_true rfl) dL_act_315 (fun z43 w43 H1 locs1 rz43 hp43 hW => ?_)
            have rz43a := rz43.1
            have rz43b := rz43.2
            exact r_iret C0 hW rz43 (by exact Or.inr (Or.inr (Or.inr (Or.inr (Or.inr (Or.inr (Or.inr (Or.inr (Or.inr (Or.inr (Or.inl (⟨by first | assumption | omega, ⟨_, _, _, _, _, _, hp37, by rw [if_neg (by assumption), if_neg (by assumption)]; exact hp40, hp42, hp43⟩⟩)))))))))))) dL_act_318
          · refine r_bipush hx hb dL_act_286 (by decide) ?_
            refine lv_goto (tgt := 293) hx hb dL_act_288 (by decide) ?_
            have hnar : vp_nar .char (iI 99) = iI 99 := rfl
            refine k_Vi (j := 0) (k0 := 0) C0 hW (c_X5_type l G w37 (hO) 99 ⟨by omega, by omega⟩ (hnar)) km_L_70 ki_X5_type ke_X5_type kn_X5 kc_X5_type rfl hdV_X5_type ⟨by decide, by decide⟩ (show 0 < 11 ∧ 0 < bs 0 from ⟨by decide, by decide⟩) rfl rfl rfl hl.1 rfl (Nat.le_of_ble_eq_true rfl) dL_act_293 (fun z44 w44 H1 locs1 rz44 hp44 hW => ?_)
            have rz44a := rz44.1
            have rz44b := rz44.2
            have hO := okW_type hO hp44
            refine lv_pop hx hb dL_act_296 rfl ?_
            refine lv_aload_n hx hb dL_act_297 rfl (lv_at hl 2 rfl) ?_
            refine r_bipush hx hb dL_act_298 (by decide) ?_
            refine lv_iload_n hx hb dL_act_300 rfl (lv_at hl 4 rfl) ?_
            refine r_iconst hx hb dL_act_301 ?_
            refine r_ishr hx hb dL_act_302 ?_
            refine r_bipush hx hb dL_act_303 (by decide) ?_
            refine k_Si (host := "") C0 hW (As := [.int (iI (shr u 2)), .int (iI 8)]) (c_L_low l G w44 (shr u 2) 8 (shr_r _ _) ⟨by omega, by omega⟩ (by omega)) km_L_31 ks_L_low kn_L kc_L_low rfl hdS_L_low ⟨by decide, by decide⟩ rfl hl.1 rfl (Nat.le_of_ble_eq_true rfl) dL_act_305 (fun z45 w45 H1 locs1 rz45 hp45 hW => ?_)
            obtain ⟨hp45, hq45⟩ := hp45
            subst hq45
            have rz45a := rz45.1
            have rz45b := rz45.2
            subst hp45
            have rl45 := lowF_in (shr u 2) (n := 8) (by omega) (by omega)
            refine r_iadd hx hb dL_act_308 ?_
            refine r_i2c hx hb dL_act_309 ?_
            have hnar : vp_nar .char (iI (chv (50 + (lowF (shr u 2) 8)))) = iI (chv (50 + (lowF (shr u 2) 8))) := chv_n _
            refine k_Vi (j := 0) (k0 := 0) C0 hW (c_X5_type l G w44 (hO) (chv (50 + (lowF (shr u 2) 8))) (chv_r _) (hnar)) km_L_70 ki_X5_type ke_X5_type kn_X5 kc_X5_type rfl hdV_X5_type ⟨by decide, by decide⟩ (show 0 < 11 ∧ 0 < bs 0 from ⟨by decide, by decide⟩) rfl rfl rfl hl.1 rfl (Nat.le_of_ble_eq_true rfl) dL_act_310 (fun z46 w46 H1 locs1 rz46 hp46 hW => ?_)
            have rz46a := rz46.1
            have rz46b := rz46.2
            have hO := okW_type hO hp46
            refine lv_pop hx hb dL_act_313 rfl ?_
            refine lv_aload_n hx hb dL_act_314 rfl (lv_at hl 2 rfl) ?_
            refine k_Vi (j := 0) (k0 := 0) C0 hW (c_X5_passAll l G w46 (hO)) km_L_74 ki_X5_passAll ke_X5_passAll kn_X5 kc_X5_passAll rfl hdV_X5_passAll ⟨by decide, by decide⟩ (show 0 < 11 ∧ 0 < bs 0 from ⟨by decide, by decide⟩) rfl rfl rfl hl.1 rfl (Nat.le_of_ble_eq_true rfl) dL_act_315 (fun z47 w47 H1 locs1 rz47 hp47 hW => ?_)
            have rz47a := rz47.1
            have rz47b := rz47.2
            exact r_iret C0 hW rz47 (by exact Or.inr (Or.inr (Or.inr (Or.inr (Or.inr (Or.inr (Or.inr (Or.inr (Or.inr (Or.inr (Or.inl (⟨by first | assumption | omega, ⟨_, _, _, _, _, _, hp37, by rw [if_neg (by assumption), if_pos (by assumption)]; exact hp44, hp46, hp47⟩⟩)))))))))))) dL_act_318
        · refine r_bipush hx hb dL_act_274 (by decide) ?_
          refine lv_goto (tgt := 293) hx hb dL_act_276 (by decide) ?_
          have hnar : vp_nar .char (iI 114) = iI 114 := rfl
          refine k_Vi (j := 0) (k0 := 0) C0 hW (c_X5_type l G w37 (hO) 114 ⟨by omega, by omega⟩ (hnar)) km_L_70 ki_X5_type ke_X5_type kn_X5 kc_X5_type rfl hdV_X5_type ⟨by decide, by decide⟩ (show 0 < 11 ∧ 0 < bs 0 from ⟨by decide, by decide⟩) rfl rfl rfl hl.1 rfl (Nat.le_of_ble_eq_true rfl) dL_act_293 (fun z48 w48 H1 locs1 rz48 hp48 hW => ?_)
          have rz48a := rz48.1
          have rz48b := rz48.2
          have hO := okW_type hO hp48
          refine lv_pop hx hb dL_act_296 rfl ?_
          refine lv_aload_n hx hb dL_act_297 rfl (lv_at hl 2 rfl) ?_
          refine r_bipush hx hb dL_act_298 (by decide) ?_
          refine lv_iload_n hx hb dL_act_300 rfl (lv_at hl 4 rfl) ?_
          refine r_iconst hx hb dL_act_301 ?_
          refine r_ishr hx hb dL_act_302 ?_
          refine r_bipush hx hb dL_act_303 (by decide) ?_
          refine k_Si (host := "") C0 hW (As := [.int (iI (shr u 2)), .int (iI 8)]) (c_L_low l G w48 (shr u 2) 8 (shr_r _ _) ⟨by omega, by omega⟩ (by omega)) km_L_31 ks_L_low kn_L kc_L_low rfl hdS_L_low ⟨by decide, by decide⟩ rfl hl.1 rfl (Nat.le_of_ble_eq_true rfl) dL_act_305 (fun z49 w49 H1 locs1 rz49 hp49 hW => ?_)
          obtain ⟨hp49, hq49⟩ := hp49
          subst hq49
          have rz49a := rz49.1
          have rz49b := rz49.2
          subst hp49
          have rl49 := lowF_in (shr u 2) (n := 8) (by omega) (by omega)
          refine r_iadd hx hb dL_act_308 ?_
          refine r_i2c hx hb dL_act_309 ?_
          have hnar : vp_nar .char (iI (chv (50 + (lowF (shr u 2) 8)))) = iI (chv (50 + (lowF (shr u 2) 8))) := chv_n _
          refine k_Vi (j := 0) (k0 := 0) C0 hW (c_X5_type l G w48 (hO) (chv (50 + (lowF (shr u 2) 8))) (chv_r _) (hnar)) km_L_70 ki_X5_type ke_X5_type kn_X5 kc_X5_type rfl hdV_X5_type ⟨by decide, by decide⟩ (show 0 < 11 ∧ 0 < bs 0 from ⟨by decide, by decide⟩) rfl rfl rfl hl.1 rfl (Nat.le_of_ble_eq_true rfl) dL_act_310 (fun z50 w50 H1 locs1 rz50 hp50 hW => ?_)
          have rz50a := rz50.1
          have rz50b := rz50.2
          have hO := okW_type hO hp50
          refine lv_pop hx hb dL_act_313 rfl ?_
          refine lv_aload_n hx hb dL_act_314 rfl (lv_at hl 2 rfl) ?_
          refine k_Vi (j := 0) (k0 := 0) C0 hW (c_X5_passAll l G w50 (hO)) km_L_74 ki_X5_passAll ke_X5_passAll kn_X5 kc_X5_passAll rfl hdV_X5_passAll ⟨by decide, by decide⟩ (show 0 < 11 ∧ 0 < bs 0 from ⟨by decide, by decide⟩) rfl rfl rfl hl.1 rfl (Nat.le_of_ble_eq_true rfl) dL_act_315 (fun z51 w51 H1 locs1 rz51 hp51 hW => ?_)
          have rz51a := rz51.1
          have rz51b := rz51.2
          exact r_iret C0 hW rz51 (by exact Or.inr (Or.inr (Or.inr (Or.inr (Or.inr (Or.inr (Or.inr (Or.inr (Or.inr (Or.inr (Or.inl (⟨by first | assumption | omega, ⟨_, _, _, _, _, _, hp37, by rw [if_pos (by assumption)]; exact hp48, hp50, hp51⟩⟩)))))))))))) dL_act_318
    · refine r_iconst hx hb dL_act_31 ?_
      refine lv_goto (tgt := 48) hx hb dL_act_32 (by decide) ?_
      rw [show iI 0 = iI (rowA (w 1) v) from by unfold rowA; rw [if_pos (by omega)]]
      refine lv_istore (lv' := [(4, .int (iI (rowA (w 1) v))), (3, .int (iI (whoF v))), (0, .ref (ad G 0 0)), (1, .int (iI v)), (2, .int (iI u))]) hx hb dL_act_48 hl (by decide) rfl (fun ls hl => ?_)
      refine lv_iload_n hx hb dL_act_50 rfl (lv_at hl 3 rfl) ?_
      refine r_bipush hx hb dL_act_51 (by decide) ?_
      refine r_iand hx hb dL_act_53 ?_
      by_cases c52 : (land v 15) < 0 ∨ 11 < (land v 15)
      · refine r_tabOut (tgt := 319) hx hb (land_r _ _) dL_act_54 c52 (by decide) ?_
        refine lv_aload_n hx hb dL_act_319 rfl (lv_at hl 2 rfl) ?_
        refine lv_iload_n hx hb dL_act_320 rfl (lv_at hl 4 rfl) ?_
        refine r_iconst hx hb dL_act_321 ?_
        refine k_Si (host := "") C0 hW (As := [.int (iI u), .int (iI 4)]) (c_L_low l G w u 4 ru ⟨by omega, by omega⟩ (by omega)) km_L_31 ks_L_low kn_L kc_L_low rfl hdS_L_low ⟨by decide, by decide⟩ rfl hl.1 rfl (Nat.le_of_ble_eq_true rfl) dL_act_322 (fun z53 w53 H1 locs1 rz53 hp53 hW => ?_)
        obtain ⟨hp53, hq53⟩ := hp53
        subst hq53
        have rz53a := rz53.1
        have rz53b := rz53.2
        subst hp53
        have rl53 := lowF_in u (n := 4) (by omega) (by omega)
        refine k_Vi (j := 0) (k0 := 0) C0 hW (c_X5_pass l G w (hO) (lowF u 4) (lowF_r _ _)) km_L_77 ki_X5_pass ke_X5_pass kn_X5 kc_X5_pass rfl hdV_X5_pass ⟨by decide, by decide⟩ (show 0 < 11 ∧ 0 < bs 0 from ⟨by decide, by decide⟩) rfl rfl rfl hl.1 rfl (Nat.le_of_ble_eq_true rfl) dL_act_325 (fun z54 w54 H1 locs1 rz54 hp54 hW => ?_)
        have rz54a := rz54.1
        have rz54b := rz54.2
        exact r_iret C0 hW rz54 (by exact Or.inr (Or.inr (Or.inr (Or.inr (Or.inr (Or.inr (Or.inr (Or.inr (Or.inr (Or.inr (Or.inr (⟨by first | assumption | omega, hp54⟩)))))))))))) dL_act_328
      have c52 : (land v 15) = 0 ∨ (land v 15) = 1 ∨ (land v 15) = 2 ∨ (land v 15) = 3 ∨ (land v 15) = 4 ∨ (land v 15) = 5 ∨ (land v 15) = 6 ∨ (land v 15) = 7 ∨ (land v 15) = 8 ∨ (land v 15) = 9 ∨ (land v 15) = 10 ∨ (land v 15) = 11 := by omega
      rcases c52 with c52 | c52 | c52 | c52 | c52 | c52 | c52 | c52 | c52 | c52 | c52 | c52
      · refine r_tabIn (tgt := 116) hx hb (land_r _ _) dL_act_54 (by omega) (by omega) (by rw [c52]; rfl) (by decide) ?_
        refine lv_iload_n hx hb dL_act_116 rfl (lv_at hl 4 rfl) ?_
        refine r_iconst hx hb dL_act_117 ?_
        refine r_iand hx hb dL_act_118 ?_
        refine r_if_ne (tgt := 145) hx hb (land_r _ _) dL_act_119 (by decide) (fun c55 => ?_) (fun c55 => ?_)
        · refine lv_aload_n hx hb dL_act_145 rfl (lv_at hl 2 rfl) ?_
          refine lv_iload_n hx hb dL_act_146 rfl (lv_at hl 3 rfl) ?_
          refine r_iconst hx hb dL_act_147 ?_
          refine r_ishr hx hb dL_act_148 ?_
          refine r_bipush hx hb dL_act_149 (by decide) ?_
          refine k_Si (host := "") C0 hW (As := [.int (iI (shr v 4)), .int (iI 21)]) (c_L_low l G w (shr v 4) 21 (shr_r _ _) ⟨by omega, by omega⟩ (by omega)) km_L_31 ks_L_low kn_L kc_L_low rfl hdS_L_low ⟨by decide, by decide⟩ rfl hl.1 rfl (Nat.le_of_ble_eq_true rfl) dL_act_151 (fun z56 w56 H1 locs1 rz56 hp56 hW => ?_)
          obtain ⟨hp56, hq56⟩ := hp56
          subst hq56
          have rz56a := rz56.1
          have rz56b := rz56.2
          subst hp56
          have rl56 := lowF_in (shr v 4) (n := 21) (by omega) (by omega)
          refine lv_iload_n hx hb dL_act_154 rfl (lv_at hl 4 rfl) ?_
          refine r_iconst hx hb dL_act_155 ?_
          refine r_ishr hx hb dL_act_156 ?_
          refine r_bipush hx hb dL_act_157 (by decide) ?_
          refine k_Si (host := "") C0 hW (As := [.int (iI (shr u 1)), .int (iI 10)]) (c_L_low l G w (shr u 1) 10 (shr_r _ _) ⟨by omega, by omega⟩ (by omega)) km_L_31 ks_L_low kn_L kc_L_low rfl hdS_L_low ⟨by decide, by decide⟩ rfl hl.1 rfl (Nat.le_of_ble_eq_true rfl) dL_act_159 (fun z57 w57 H1 locs1 rz57 hp57 hW => ?_)
          obtain ⟨hp57, hq57⟩ := hp57
          subst hq57
          have rz57a := rz57.1
          have rz57b := rz57.2
          subst hp57
          have rl57 := lowF_in (shr u 1) (n := 10) (by omega) (by omega)
          refine k_Vi (j := 0) (k0 := 0) C0 hW (c_X5_handOver l G w (hO) (lowF (shr v 4) 21) (lowF (shr u 1) 10) (lowF_r _ _) (lowF_r _ _)) km_L_39 ki_X5_handOver ke_X5_handOver kn_X5 kc_X5_handOver rfl hdV_X5_handOver ⟨by decide, by decide⟩ (show 0 < 11 ∧ 0 < bs 0 from ⟨by decide, by decide⟩) rfl rfl rfl hl.1 rfl (Nat.le_of_ble_eq_true rfl) dL_act_162 (fun z58 w58 H1 locs1 rz58 hp58 hW => ?_)
          have rz58a := rz58.1
          have rz58b := rz58.2
          exact r_iret C0 hW rz58 (by exact Or.inr (Or.inl (⟨by first | assumption | omega, by first | assumption | omega, hp58⟩))) dL_act_165
        · refine lv_aload_n hx hb dL_act_122 rfl (lv_at hl 2 rfl) ?_
          refine lv_iload_n hx hb dL_act_123 rfl (lv_at hl 3 rfl) ?_
          refine r_iconst hx hb dL_act_124 ?_
          refine r_ishr hx hb dL_act_125 ?_
          refine r_bipush hx hb dL_act_126 (by decide) ?_
          refine k_Si (host := "") C0 hW (As := [.int (iI (shr v 4)), .int (iI 21)]) (c_L_low l G w (shr v 4) 21 (shr_r _ _) ⟨by omega, by omega⟩ (by omega)) km_L_31 ks_L_low kn_L kc_L_low rfl hdS_L_low ⟨by decide, by decide⟩ rfl hl.1 rfl (Nat.le_of_ble_eq_true rfl) dL_act_128 (fun z59 w59 H1 locs1 rz59 hp59 hW => ?_)
          obtain ⟨hp59, hq59⟩ := hp59
          subst hq59
          have rz59a := rz59.1
          have rz59b := rz59.2
          subst hp59
          have rl59 := lowF_in (shr v 4) (n := 21) (by omega) (by omega)
          refine lv_iload_n hx hb dL_act_131 rfl (lv_at hl 4 rfl) ?_
          refine r_iconst hx hb dL_act_132 ?_
          refine r_ishr hx hb dL_act_133 ?_
          refine r_bipush hx hb dL_act_134 (by decide) ?_
          refine k_Si (host := "") C0 hW (As := [.int (iI (shr u 1)), .int (iI 10)]) (c_L_low l G w (shr u 1) 10 (shr_r _ _) ⟨by omega, by omega⟩ (by omega)) km_L_31 ks_L_low kn_L kc_L_low rfl hdS_L_low ⟨by decide, by decide⟩ rfl hl.1 rfl (Nat.le_of_ble_eq_true rfl) dL_act_136 (fun z60 w60 H1 locs1 rz60 hp60 hW => ?_)
          obtain ⟨hp60, hq60⟩ := hp60
          subst hq60
          have rz60a := rz60.1
          have rz60b := rz60.2
          subst hp60
          have rl60 := lowF_in (shr u 1) (n := 10) (by omega) (by omega)
          refine k_Vi (j := 0) (k0 := 0) C0 hW (c_X5_lend l G w (hO) (lowF (shr v 4) 21) (lowF (shr u 1) 10) (lowF_r _ _) (lowF_r _ _)) km_L_36 ki_X5_lend ke_X5_lend kn_X5 kc_X5_lend rfl hdV_X5_lend ⟨by decide, by decide⟩ (show 0 < 11 ∧ 0 < bs 0 from ⟨by decide, by decide⟩) rfl rfl rfl hl.1 rfl (Nat.le_of_ble_eq_true rfl) dL_act_139 (fun z61 w61 H1 locs1 rz61 hp61 hW => ?_)
          have rz61a := rz61.1
          have rz61b := rz61.2
          refine lv_goto (tgt := 165) hx hb dL_act_142 (by decide) ?_
          exact r_iret C0 hW rz61 (by exact Or.inl (⟨by first | assumption | omega, by first | assumption | omega, hp61⟩)) dL_act_165
      · refine r_tabIn (tgt := 166) hx hb (land_r _ _) dL_act_54 (by omega) (by omega) (by rw [c52]; rfl) (by decide) ?_
        refine lv_iload_n hx hb dL_act_166 rfl (lv_at hl 4 rfl) ?_
        refine r_iconst hx hb dL_act_167 ?_
        refine r_iand hx hb dL_act_168 ?_
        refine r_if_ne (tgt := 188) hx hb (land_r _ _) dL_act_169 (by decide) (fun c62 => ?_) (fun c62 => ?_)
        · refine lv_aload_n hx hb dL_act_188 rfl (lv_at hl 2 rfl) ?_
          refine lv_iload_n hx hb dL_act_189 rfl (lv_at hl 4 rfl) ?_
          refine r_iconst hx hb dL_act_190 ?_
          refine r_ishr hx hb dL_act_191 ?_
          refine r_iconst hx hb dL_act_192 ?_
          refine k_Si (host := "") C0 hW (As := [.int (iI (shr u 1)), .int (iI 3)]) (c_L_low l G w (shr u 1) 3 (shr_r _ _) ⟨by omega, by omega⟩ (by omega)) km_L_31 ks_L_low kn_L kc_L_low rfl hdS_L_low ⟨by decide, by decide⟩ rfl hl.1 rfl (Nat.le_of_ble_eq_true rfl) dL_act_193 (fun z63 w63 H1 locs1 rz63 hp63 hW => ?_)
          obtain ⟨hp63, hq63⟩ := hp63
          subst hq63
          have rz63a := rz63.1
          have rz63b := rz63.2
          subst hp63
          have rl63 := lowF_in (shr u 1) (n := 3) (by omega) (by omega)
          refine lv_iload_n hx hb dL_act_196 rfl (lv_at hl 4 rfl) ?_
          refine r_iconst hx hb dL_act_197 ?_
          refine r_ishr hx hb dL_act_198 ?_
          refine r_bipush hx hb dL_act_199 (by decide) ?_
          refine k_Si (host := "") C0 hW (As := [.int (iI (shr u 3)), .int (iI 8)]) (c_L_low l G w (shr u 3) 8 (shr_r _ _) ⟨by omega, by omega⟩ (by omega)) km_L_31 ks_L_low kn_L kc_L_low rfl hdS_L_low ⟨by decide, by decide⟩ rfl hl.1 rfl (Nat.le_of_ble_eq_true rfl) dL_act_201 (fun z64 w64 H1 locs1 rz64 hp64 hW => ?_)
          obtain ⟨hp64, hq64⟩ := hp64
          subst hq64
          have rz64a := rz64.1
          have rz64b := rz64.2
          subst hp64
          have rl64 := lowF_in (shr u 3) (n := 8) (by omega) (by omega)
          refine k_Vi (j := 0) (k0 := 0) C0 hW (c_X5_set l G w (hO) (lowF (shr u 1) 3) (lowF (shr u 3) 8) (lowF_r _ _) (lowF_r _ _)) km_L_45 ki_X5_set ke_X5_set kn_X5 kc_X5_set rfl hdV_X5_set ⟨by decide, by decide⟩ (show 0 < 11 ∧ 0 < bs 0 from ⟨by decide, by decide⟩) rfl rfl rfl hl.1 rfl (Nat.le_of_ble_eq_true rfl) dL_act_204 (fun z65 w65 H1 locs1 rz65 hp65 hW => ?_)
          have rz65a := rz65.1
          have rz65b := rz65.2
          exact r_iret C0 hW rz65 (by exact Or.inr (Or.inr (Or.inr (Or.inl (⟨by first | assumption | omega, by first | assumption | omega, hp65⟩))))) dL_act_207
        · refine lv_aload_n hx hb dL_act_172 rfl (lv_at hl 2 rfl) ?_
          refine lv_iload_n hx hb dL_act_173 rfl (lv_at hl 1 rfl) ?_
          refine lv_iload_n hx hb dL_act_174 rfl (lv_at hl 4 rfl) ?_
          refine r_iconst hx hb dL_act_175 ?_
          refine r_ishr hx hb dL_act_176 ?_
          refine r_bipush hx hb dL_act_177 (by decide) ?_
          refine k_Si (host := "") C0 hW (As := [.int (iI (shr u 1)), .int (iI 22)]) (c_L_low l G w (shr u 1) 22 (shr_r _ _) ⟨by omega, by omega⟩ (by omega)) km_L_31 ks_L_low kn_L kc_L_low rfl hdS_L_low ⟨by decide, by decide⟩ rfl hl.1 rfl (Nat.le_of_ble_eq_true rfl) dL_act_179 (fun z66 w66 H1 locs1 rz66 hp66 hW => ?_)
          obtain ⟨hp66, hq66⟩ := hp66
          subst hq66
          have rz66a := rz66.1
          have rz66b := rz66.2
          subst hp66
          have rl66 := lowF_in (shr u 1) (n := 22) (by omega) (by omega)
          refine k_Vi (j := 0) (k0 := 0) C0 hW (c_X5_setDays l G w (hO) (whoF v) (lowF (shr u 1) 22) (lowF_r _ _) (lowF_r _ _)) km_L_42 ki_X5_setDays ke_X5_setDays kn_X5 kc_X5_setDays rfl hdV_X5_setDays ⟨by decide, by decide⟩ (show 0 < 11 ∧ 0 < bs 0 from ⟨by decide, by decide⟩) rfl rfl rfl hl.1 rfl (Nat.le_of_ble_eq_true rfl) dL_act_182 (fun z67 w67 H1 locs1 rz67 hp67 hW => ?_)
          have rz67a := rz67.1
          have rz67b := rz67.2
          refine lv_goto (tgt := 207) hx hb dL_act_185 (by decide) ?_
          exact r_iret C0 hW rz67 (by exact Or.inr (Or.inr (Or.inl (⟨by first | assumption | omega, by first | assumption | omega, hp67⟩)))) dL_act_207
      · refine r_tabIn (tgt := 208) hx hb (land_r _ _) dL_act_54 (by omega) (by omega) (by rw [c52]; rfl) (by decide) ?_
        refine lv_aload_n hx hb dL_act_208 rfl (lv_at hl 2 rfl) ?_
        refine lv_iload_n hx hb dL_act_209 rfl (lv_at hl 1 rfl) ?_
        refine r_iconst hx hb dL_act_210 ?_
        refine lv_iload_n hx hb dL_act_211 rfl (lv_at hl 1 rfl) ?_
        refine r_imul hx hb dL_act_212 ?_
        refine lv_iload_n hx hb dL_act_213 rfl (lv_at hl 4 rfl) ?_
        refine r_iconst hx hb dL_act_214 ?_
        refine k_Si (host := "") C0 hW (As := [.int (iI u), .int (iI 4)]) (c_L_low l G w u 4 ru ⟨by omega, by omega⟩ (by omega)) km_L_31 ks_L_low kn_L kc_L_low rfl hdS_L_low ⟨by decide, by decide⟩ rfl hl.1 rfl (Nat.le_of_ble_eq_true rfl) dL_act_215 (fun z68 w68 H1 locs1 rz68 hp68 hW => ?_)
        obtain ⟨hp68, hq68⟩ := hp68
        subst hq68
        have rz68a := rz68.1
        have rz68b := rz68.2
        subst hp68
        have rl68 := lowF_in u (n := 4) (by omega) (by omega)
        refine r_iadd hx hb dL_act_218 ?_
        refine r_iconst hx hb dL_act_219 ?_
        refine r_isub hx hb dL_act_220 ?_
        refine k_Vi (j := 0) (k0 := 0) C0 hW (c_X5_cut l G w (hO) (whoF v) (((2 * (whoF v)) + (lowF u 4)) - 1) (lowF_r _ _) ⟨by omega, by omega⟩) km_L_48 ki_X5_cut ke_X5_cut kn_X5 kc_X5_cut rfl hdV_X5_cut ⟨by decide, by decide⟩ (show 0 < 11 ∧ 0 < bs 0 from ⟨by decide, by decide⟩) rfl rfl rfl hl.1 rfl (Nat.le_of_ble_eq_true rfl) dL_act_221 (fun z69 w69 H1 locs1 rz69 hp69 hW => ?_)
        have rz69a := rz69.1
        have rz69b := rz69.2
        exact r_iret C0 hW rz69 (by exact Or.inr (Or.inr (Or.inr (Or.inr (Or.inl (⟨by first | assumption | omega, hp69⟩)))))) dL_act_224
      · refine r_tabIn (tgt := 208) hx hb (land_r _ _) dL_act_54 (by omega) (by omega) (by rw [c52]; rfl) (by decide) ?_
        refine lv_aload_n hx hb dL_act_208 rfl (lv_at hl 2 rfl) ?_
        refine lv_iload_n hx hb dL_act_209 rfl (lv_at hl 1 rfl) ?_
        refine r_iconst hx hb dL_act_210 ?_
        refine lv_iload_n hx hb dL_act_211 rfl (lv_at hl 1 rfl) ?_
        refine r_imul hx hb dL_act_212 ?_
        refine lv_iload_n hx hb dL_act_213 rfl (lv_at hl 4 rfl) ?_
        refine r_iconst hx hb dL_act_214 ?_
        refine k_Si (host := "") C0 hW (As := [.int (iI u), .int (iI 4)]) (c_L_low l G w u 4 ru ⟨by omega, by omega⟩ (by omega)) km_L_31 ks_L_low kn_L kc_L_low rfl hdS_L_low ⟨by decide, by decide⟩ rfl hl.1 rfl (Nat.le_of_ble_eq_true rfl) dL_act_215 (fun z70 w70 H1 locs1 rz70 hp70 hW => ?_)
        obtain ⟨hp70, hq70⟩ := hp70
        subst hq70
        have rz70a := rz70.1
        have rz70b := rz70.2
        subst hp70
        have rl70 := lowF_in u (n := 4) (by omega) (by omega)
        refine r_iadd hx hb dL_act_218 ?_
        refine r_iconst hx hb dL_act_219 ?_
        refine r_isub hx hb dL_act_220 ?_
        refine k_Vi (j := 0) (k0 := 0) C0 hW (c_X5_cut l G w (hO) (whoF v) (((2 * (whoF v)) + (lowF u 4)) - 1) (lowF_r _ _) ⟨by omega, by omega⟩) km_L_48 ki_X5_cut ke_X5_cut kn_X5 kc_X5_cut rfl hdV_X5_cut ⟨by decide, by decide⟩ (show 0 < 11 ∧ 0 < bs 0 from ⟨by decide, by decide⟩) rfl rfl rfl hl.1 rfl (Nat.le_of_ble_eq_true rfl) dL_act_221 (fun z71 w71 H1 locs1 rz71 hp71 hW => ?_)
        have rz71a := rz71.1
        have rz71b := rz71.2
        exact r_iret C0 hW rz71 (by exact Or.inr (Or.inr (Or.inr (Or.inr (Or.inl (⟨by first | assumption | omega, hp71⟩)))))) dL_act_224
      · refine r_tabIn (tgt := 208) hx hb (land_r _ _) dL_act_54 (by omega) (by omega) (by rw [c52]; rfl) (by decide) ?_
        refine lv_aload_n hx hb dL_act_208 rfl (lv_at hl 2 rfl) ?_
        refine lv_iload_n hx hb dL_act_209 rfl (lv_at hl 1 rfl) ?_
        refine r_iconst hx hb dL_act_210 ?_
        refine lv_iload_n hx hb dL_act_211 rfl (lv_at hl 1 rfl) ?_
        refine r_imul hx hb dL_act_212 ?_
        refine lv_iload_n hx hb dL_act_213 rfl (lv_at hl 4 rfl) ?_
        refine r_iconst hx hb dL_act_214 ?_
        refine k_Si (host := "") C0 hW (As := [.int (iI u), .int (iI 4)]) (c_L_low l G w u 4 ru ⟨by omega, by omega⟩ (by omega)) km_L_31 ks_L_low kn_L kc_L_low rfl hdS_L_low ⟨by decide, by decide⟩ rfl hl.1 rfl (Nat.le_of_ble_eq_true rfl) dL_act_215 (fun z72 w72 H1 locs1 rz72 hp72 hW => ?_)
        obtain ⟨hp72, hq72⟩ := hp72
        subst hq72
        have rz72a := rz72.1
        have rz72b := rz72.2
        subst hp72
        have rl72 := lowF_in u (n := 4) (by omega) (by omega)
        refine r_iadd hx hb dL_act_218 ?_
        refine r_iconst hx hb dL_act_219 ?_
        refine r_isub hx hb dL_act_220 ?_
        refine k_Vi (j := 0) (k0 := 0) C0 hW (c_X5_cut l G w (hO) (whoF v) (((2 * (whoF v)) + (lowF u 4)) - 1) (lowF_r _ _) ⟨by omega, by omega⟩) km_L_48 ki_X5_cut ke_X5_cut kn_X5 kc_X5_cut rfl hdV_X5_cut ⟨by decide, by decide⟩ (show 0 < 11 ∧ 0 < bs 0 from ⟨by decide, by decide⟩) rfl rfl rfl hl.1 rfl (Nat.le_of_ble_eq_true rfl) dL_act_221 (fun z73 w73 H1 locs1 rz73 hp73 hW => ?_)
        have rz73a := rz73.1
        have rz73b := rz73.2
        exact r_iret C0 hW rz73 (by exact Or.inr (Or.inr (Or.inr (Or.inr (Or.inl (⟨by first | assumption | omega, hp73⟩)))))) dL_act_224
      · refine r_tabIn (tgt := 225) hx hb (land_r _ _) dL_act_54 (by omega) (by omega) (by rw [c52]; rfl) (by decide) ?_
        refine lv_aload_n hx hb dL_act_225 rfl (lv_at hl 2 rfl) ?_
        refine lv_iload hx hb dL_act_226 (lv_at hl 0 rfl) ?_
        refine k_Vi (j := 0) (k0 := 0) C0 hW (c_X5_turn l G w (hO) (rowA (w 1) v) (rowA_r _ _)) km_L_51 ki_X5_turn ke_X5_turn kn_X5 kc_X5_turn rfl hdV_X5_turn ⟨by decide, by decide⟩ (show 0 < 11 ∧ 0 < bs 0 from ⟨by decide, by decide⟩) rfl rfl rfl hl.1 rfl (Nat.le_of_ble_eq_true rfl) dL_act_228 (fun z74 w74 H1 locs1 rz74 hp74 hW => ?_)
        have rz74a := rz74.1
        have rz74b := rz74.2
        exact r_iret C0 hW rz74 (by exact Or.inr (Or.inr (Or.inr (Or.inr (Or.inr (Or.inl (⟨by first | assumption | omega, hp74⟩))))))) dL_act_231
      · refine r_tabIn (tgt := 225) hx hb (land_r _ _) dL_act_54 (by omega) (by omega) (by rw [c52]; rfl) (by decide) ?_
        refine lv_aload_n hx hb dL_act_225 rfl (lv_at hl 2 rfl) ?_
        refine lv_iload hx hb dL_act_226 (lv_at hl 0 rfl) ?_
        refine k_Vi (j := 0) (k0 := 0) C0 hW (c_X5_turn l G w (hO) (rowA (w 1) v) (rowA_r _ _)) km_L_51 ki_X5_turn ke_X5_turn kn_X5 kc_X5_turn rfl hdV_X5_turn ⟨by decide, by decide⟩ (show 0 < 11 ∧ 0 < bs 0 from ⟨by decide, by decide⟩) rfl rfl rfl hl.1 rfl (Nat.le_of_ble_eq_true rfl) dL_act_228 (fun z75 w75 H1 locs1 rz75 hp75 hW => ?_)
        have rz75a := rz75.1
        have rz75b := rz75.2
        exact r_iret C0 hW rz75 (by exact Or.inr (Or.inr (Or.inr (Or.inr (Or.inr (Or.inl (⟨by first | assumption | omega, hp75⟩))))))) dL_act_231
      · refine r_tabIn (tgt := 232) hx hb (land_r _ _) dL_act_54 (by omega) (by omega) (by rw [c52]; rfl) (by decide) ?_
        refine lv_aload_n hx hb dL_act_232 rfl (lv_at hl 2 rfl) ?_
        refine lv_iload hx hb dL_act_233 (lv_at hl 0 rfl) ?_
        refine k_Vi (j := 0) (k0 := 0) C0 hW (c_X5_stack l G w (hO) (rowA (w 1) v) (rowA_r _ _)) km_L_54 ki_X5_stack ke_X5_stack kn_X5 kc_X5_stack rfl hdV_X5_stack ⟨by decide, by decide⟩ (show 0 < 11 ∧ 0 < bs 0 from ⟨by decide, by decide⟩) rfl rfl rfl hl.1 rfl (Nat.le_of_ble_eq_true rfl) dL_act_235 (fun z76 w76 H1 locs1 rz76 hp76 hW => ?_)
        have rz76a := rz76.1
        have rz76b := rz76.2
        exact r_iret C0 hW rz76 (by exact Or.inr (Or.inr (Or.inr (Or.inr (Or.inr (Or.inr (Or.inl (⟨by first | assumption | omega, hp76⟩)))))))) dL_act_238
      · refine r_tabIn (tgt := 232) hx hb (land_r _ _) dL_act_54 (by omega) (by omega) (by rw [c52]; rfl) (by decide) ?_
        refine lv_aload_n hx hb dL_act_232 rfl (lv_at hl 2 rfl) ?_
        refine lv_iload hx hb dL_act_233 (lv_at hl 0 rfl) ?_
        refine k_Vi (j := 0) (k0 := 0) C0 hW (c_X5_stack l G w (hO) (rowA (w 1) v) (rowA_r _ _)) km_L_54 ki_X5_stack ke_X5_stack kn_X5 kc_X5_stack rfl hdV_X5_stack ⟨by decide, by decide⟩ (show 0 < 11 ∧ 0 < bs 0 from ⟨by decide, by decide⟩) rfl rfl rfl hl.1 rfl (Nat.le_of_ble_eq_true rfl) dL_act_235 (fun z77 w77 H1 locs1 rz77 hp77 hW => ?_)
        have rz77a := rz77.1
        have rz77b := rz77.2
        exact r_iret C0 hW rz77 (by exact Or.inr (Or.inr (Or.inr (Or.inr (Or.inr (Or.inr (Or.inl (⟨by first | assumption | omega, hp77⟩)))))))) dL_act_238
      · refine r_tabIn (tgt := 239) hx hb (land_r _ _) dL_act_54 (by omega) (by omega) (by rw [c52]; rfl) (by decide) ?_
        refine lv_aload_n hx hb dL_act_239 rfl (lv_at hl 2 rfl) ?_
        refine k_Vi (j := 0) (k0 := 0) C0 hW (c_X5_settle l G w (hO)) km_L_57 ki_X5_settle ke_X5_settle kn_X5 kc_X5_settle rfl hdV_X5_settle ⟨by decide, by decide⟩ (show 0 < 11 ∧ 0 < bs 0 from ⟨by decide, by decide⟩) rfl rfl rfl hl.1 rfl (Nat.le_of_ble_eq_true rfl) dL_act_240 (fun z78 w78 H1 locs1 rz78 hp78 hW => ?_)
        have rz78a := rz78.1
        have rz78b := rz78.2
        exact r_iret C0 hW rz78 (by exact Or.inr (Or.inr (Or.inr (Or.inr (Or.inr (Or.inr (Or.inr (Or.inl (⟨by first | assumption | omega, hp78⟩))))))))) dL_act_243
      · refine r_tabIn (tgt := 244) hx hb (land_r _ _) dL_act_54 (by omega) (by omega) (by rw [c52]; rfl) (by decide) ?_
        refine lv_iload_n hx hb dL_act_244 rfl (lv_at hl 4 rfl) ?_
        refine r_iconst hx hb dL_act_245 ?_
        refine r_iand hx hb dL_act_246 ?_
        refine r_if_ne (tgt := 257) hx hb (land_r _ _) dL_act_247 (by decide) (fun c79 => ?_) (fun c79 => ?_)
        · refine lv_aload_n hx hb dL_act_257 rfl (lv_at hl 2 rfl) ?_
          refine k_Vi (j := 0) (k0 := 0) C0 hW (c_X5_restore l G w (hO)) km_L_64 ki_X5_restore ke_X5_restore kn_X5 kc_X5_restore rfl hdV_X5_restore ⟨by decide, by decide⟩ (show 0 < 11 ∧ 0 < bs 0 from ⟨by decide, by decide⟩) rfl rfl rfl hl.1 rfl (Nat.le_of_ble_eq_true rfl) dL_act_258 (fun z80 w80 H1 locs1 rz80 hp80 hW => ?_)
          have rz80a := rz80.1
          have rz80b := rz80.2
          exact r_iret C0 hW rz80 (by exact Or.inr (Or.inr (Or.inr (Or.inr (Or.inr (Or.inr (Or.inr (Or.inr (Or.inr (Or.inl (⟨by first | assumption | omega, by first | assumption | omega, hp80⟩))))))))))) dL_act_261
        · refine lv_aload_n hx hb dL_act_250 rfl (lv_at hl 2 rfl) ?_
          refine k_Vi (j := 0) (k0 := 0) C0 hW (c_X5_endYear l G w (hO)) km_L_61 ki_X5_endYear ke_X5_endYear kn_X5 kc_X5_endYear rfl hdV_X5_endYear ⟨by decide, by decide⟩ (show 0 < 11 ∧ 0 < bs 0 from ⟨by decide, by decide⟩) rfl rfl rfl hl.1 rfl (Nat.le_of_ble_eq_true rfl) dL_act_251 (fun z81 w81 H1 locs1 rz81 hp81 hW => ?_)
          have rz81a := rz81.1
          have rz81b := rz81.2
          refine lv_goto (tgt := 261) hx hb dL_act_254 (by decide) ?_
          exact r_iret C0 hW rz81 (by exact Or.inr (Or.inr (Or.inr (Or.inr (Or.inr (Or.inr (Or.inr (Or.inr (Or.inl (⟨by first | assumption | omega, by first | assumption | omega, hp81⟩)))))))))) dL_act_261
      · refine r_tabIn (tgt := 262) hx hb (land_r _ _) dL_act_54 (by omega) (by omega) (by rw [c52]; rfl) (by decide) ?_
        refine lv_aload_n hx hb dL_act_262 rfl (lv_at hl 2 rfl) ?_
        refine k_Vi (j := 0) (k0 := 0) C0 hW (c_X5_clearText l G w (hO)) km_L_67 ki_X5_clearText ke_X5_clearText kn_X5 kc_X5_clearText rfl hdV_X5_clearText ⟨by decide, by decide⟩ (show 0 < 11 ∧ 0 < bs 0 from ⟨by decide, by decide⟩) rfl rfl rfl hl.1 rfl (Nat.le_of_ble_eq_true rfl) dL_act_263 (fun z82 w82 H1 locs1 rz82 hp82 hW => ?_)
        have rz82a := rz82.1
        have rz82b := rz82.2
        have hO := okW_clear hO hp82
        refine lv_pop hx hb dL_act_266 rfl ?_
        refine lv_aload_n hx hb dL_act_267 rfl (lv_at hl 2 rfl) ?_
        refine lv_iload_n hx hb dL_act_268 rfl (lv_at hl 4 rfl) ?_
        refine r_iconst hx hb dL_act_269 ?_
        refine r_iand hx hb dL_act_270 ?_
        refine r_if_ne (tgt := 279) hx hb (land_r _ _) dL_act_271 (by decide) (fun c83 => ?_) (fun c83 => ?_)
        · refine lv_iload_n hx hb dL_act_279 rfl (lv_at hl 4 rfl) ?_
          refine r_iconst hx hb dL_act_280 ?_
          refine r_iand hx hb dL_act_281 ?_
          refine r_iconst hx hb dL_act_282 ?_
          refine r_icmp_ne (tgt := 291) hx hb (land_r _ _) ⟨by omega, by omega⟩ dL_act_283 (by decide) (fun c84 => ?_) (fun c84 => ?_)
          · refine r_bipush hx hb dL_act_291 (by decide) ?_
            have hnar : vp_nar .char (iI 115) = iI 115 := rfl
            refine k_Vi (j := 0) (k0 := 0) C0 hW (c_X5_type l G w82 (hO) 115 ⟨by omega, by omega⟩ (hnar)) km_L_70 ki_X5_type ke_X5_type kn_X5 kc_X5_type rfl hdV_X5_type ⟨by decide, by decide⟩ (show 0 < 11 ∧ 0 < bs 0 from ⟨by decide, by decide⟩) rfl rfl rfl hl.1 rfl (Nat.le_of_ble_eq_true rfl) dL_act_293 (fun z85 w85 H1 locs1 rz85 hp85 hW => ?_)
            have rz85a := rz85.1
            have rz85b := rz85.2
            have hO := okW_type hO hp85
            refine lv_pop hx hb dL_act_296 rfl ?_
            refine lv_aload_n hx hb dL_act_297 rfl (lv_at hl 2 rfl) ?_
            refine r_bipush hx hb dL_act_298 (by decide) ?_
            refine lv_iload_n hx hb dL_act_300 rfl (lv_at hl 4 rfl) ?_
            refine r_iconst hx hb dL_act_301 ?_
            refine r_ishr hx hb dL_act_302 ?_
            refine r_bipush hx hb dL_act_303 (by decide) ?_
            refine k_Si (host := "") C0 hW (As := [.int (iI (shr u 2)), .int (iI 8)]) (c_L_low l G w85 (shr u 2) 8 (shr_r _ _) ⟨by omega, by omega⟩ (by omega)) km_L_31 ks_L_low kn_L kc_L_low rfl hdS_L_low ⟨by decide, by decide⟩ rfl hl.1 rfl (Nat.le_of_ble_eq_true rfl) dL_act_305 (fun z86 w86 H1 locs1 rz86 hp86 hW => ?_)
            obtain ⟨hp86, hq86⟩ := hp86
            subst hq86
            have rz86a := rz86.1
            have rz86b := rz86.2
            subst hp86
            have rl86 := lowF_in (shr u 2) (n := 8) (by omega) (by omega)
            refine r_iadd hx hb dL_act_308 ?_
            refine r_i2c hx hb dL_act_309 ?_
            have hnar : vp_nar .char (iI (chv (50 + (lowF (shr u 2) 8)))) = iI (chv (50 + (lowF (shr u 2) 8))) := chv_n _
            refine k_Vi (j := 0) (k0 := 0) C0 hW (c_X5_type l G w85 (hO) (chv (50 + (lowF (shr u 2) 8))) (chv_r _) (hnar)) km_L_70 ki_X5_type ke_X5_type kn_X5 kc_X5_type rfl hdV_X5_type ⟨by decide, by decide⟩ (show 0 < 11 ∧ 0 < bs 0 from ⟨by decide, by decide⟩) rfl rfl rfl hl.1 rfl (Nat.le_of_ble_eq_true rfl) dL_act_310 (fun z87 w87 H1 locs1 rz87 hp87 hW => ?_)
            have rz87a := rz87.1
            have rz87b := rz87.2
            have hO := okW_type hO hp87
            refine lv_pop hx hb dL_act_313 rfl ?_
            refine lv_aload_n hx hb dL_act_314 rfl (lv_at hl 2 rfl) ?_
            refine k_Vi (j := 0) (k0 := 0) C0 hW (c_X5_passAll l G w87 (hO)) km_L_74 ki_X5_passAll ke_X5_passAll kn_X5 kc_X5_passAll rfl hdV_X5_passAll ⟨by decide, by decide⟩ (show 0 < 11 ∧ 0 < bs 0 from ⟨by decide, by decide⟩) rfl rfl rfl hl.1 rfl (Nat.le_of_ble_eq_true rfl) dL_act_315 (fun z88 w88 H1 locs1 rz88 hp88 hW => ?_)
            have rz88a := rz88.1
            have rz88b := rz88.2
            exact r_iret C0 hW rz88 (by exact Or.inr (Or.inr (Or.inr (Or.inr (Or.inr (Or.inr (Or.inr (Or.inr (Or.inr (Or.inr (Or.inl (⟨by first | assumption | omega, ⟨_, _, _, _, _, _, hp82, by rw [if_neg (by assumption), if_neg (by assumption)]; exact hp85, hp87, hp88⟩⟩)))))))))))) dL_act_318
          · refine r_bipush hx hb dL_act_286 (by decide) ?_
            refine lv_goto (tgt := 293) hx hb dL_act_288 (by decide) ?_
            have hnar : vp_nar .char (iI 99) = iI 99 := rfl
            refine k_Vi (j := 0) (k0 := 0) C0 hW (c_X5_type l G w82 (hO) 99 ⟨by omega, by omega⟩ (hnar)) km_L_70 ki_X5_type ke_X5_type kn_X5 kc_X5_type rfl hdV_X5_type ⟨by decide, by decide⟩ (show 0 < 11 ∧ 0 < bs 0 from ⟨by decide, by decide⟩) rfl rfl rfl hl.1 rfl (Nat.le_of_ble_eq_true rfl) dL_act_293 (fun z89 w89 H1 locs1 rz89 hp89 hW => ?_)
            have rz89a := rz89.1
            have rz89b := rz89.2
            have hO := okW_type hO hp89
            refine lv_pop hx hb dL_act_296 rfl ?_
            refine lv_aload_n hx hb dL_act_297 rfl (lv_at hl 2 rfl) ?_
            refine r_bipush hx hb dL_act_298 (by decide) ?_
            refine lv_iload_n hx hb dL_act_300 rfl (lv_at hl 4 rfl) ?_
            refine r_iconst hx hb dL_act_301 ?_
            refine r_ishr hx hb dL_act_302 ?_
            refine r_bipush hx hb dL_act_303 (by decide) ?_
            refine k_Si (host := "") C0 hW (As := [.int (iI (shr u 2)), .int (iI 8)]) (c_L_low l G w89 (shr u 2) 8 (shr_r _ _) ⟨by omega, by omega⟩ (by omega)) km_L_31 ks_L_low kn_L kc_L_low rfl hdS_L_low ⟨by decide, by decide⟩ rfl hl.1 rfl (Nat.le_of_ble_eq_true rfl) dL_act_305 (fun z90 w90 H1 locs1 rz90 hp90 hW => ?_)
            obtain ⟨hp90, hq90⟩ := hp90
            subst hq90
            have rz90a := rz90.1
            have rz90b := rz90.2
            subst hp90
            have rl90 := lowF_in (shr u 2) (n := 8) (by omega) (by omega)
            refine r_iadd hx hb dL_act_308 ?_
            refine r_i2c hx hb dL_act_309 ?_
            have hnar : vp_nar .char (iI (chv (50 + (lowF (shr u 2) 8)))) = iI (chv (50 + (lowF (shr u 2) 8))) := chv_n _
            refine k_Vi (j := 0) (k0 := 0) C0 hW (c_X5_type l G w89 (hO) (chv (50 + (lowF (shr u 2) 8))) (chv_r _) (hnar)) km_L_70 ki_X5_type ke_X5_type kn_X5 kc_X5_type rfl hdV_X5_type ⟨by decide, by decide⟩ (show 0 < 11 ∧ 0 < bs 0 from ⟨by decide, by decide⟩) rfl rfl rfl hl.1 rfl (Nat.le_of_ble_eq_true rfl) dL_act_310 (fun z91 w91 H1 locs1 rz91 hp91 hW => ?_)
            have rz91a := rz91.1
            have rz91b := rz91.2
            have hO := okW_type hO hp91
            refine lv_pop hx hb dL_act_313 rfl ?_
            refine lv_aload_n hx hb dL_act_314 rfl (lv_at hl 2 rfl) ?_
            refine k_Vi (j := 0) (k0 := 0) C0 hW (c_X5_passAll l G w91 (hO)) km_L_74 ki_X5_passAll ke_X5_passAll kn_X5 kc_X5_passAll rfl hdV_X5_passAll ⟨by decide, by decide⟩ (show 0 < 11 ∧ 0 < bs 0 from ⟨by decide, by decide⟩) rfl rfl rfl hl.1 rfl (Nat.le_of_ble_eq_true rfl) dL_act_315 (fun z92 w92 H1 locs1 rz92 hp92 hW => ?_)
            have rz92a := rz92.1
            have rz92b := rz92.2
            exact r_iret C0 hW rz92 (by exact Or.inr (Or.inr (Or.inr (Or.inr (Or.inr (Or.inr (Or.inr (Or.inr (Or.inr (Or.inr (Or.inl (⟨by first | assumption | omega, ⟨_, _, _, _, _, _, hp82, by rw [if_neg (by assumption), if_pos (by assumption)]; exact hp89, hp91, hp92⟩⟩)))))))))))) dL_act_318
        · refine r_bipush hx hb dL_act_274 (by decide) ?_
          refine lv_goto (tgt := 293) hx hb dL_act_276 (by decide) ?_
          have hnar : vp_nar .char (iI 114) = iI 114 := rfl
          refine k_Vi (j := 0) (k0 := 0) C0 hW (c_X5_type l G w82 (hO) 114 ⟨by omega, by omega⟩ (hnar)) km_L_70 ki_X5_type ke_X5_type kn_X5 kc_X5_type rfl hdV_X5_type ⟨by decide, by decide⟩ (show 0 < 11 ∧ 0 < bs 0 from ⟨by decide, by decide⟩) rfl rfl rfl hl.1 rfl (Nat.le_of_ble_eq_true rfl) dL_act_293 (fun z93 w93 H1 locs1 rz93 hp93 hW => ?_)
          have rz93a := rz93.1
          have rz93b := rz93.2
          have hO := okW_type hO hp93
          refine lv_pop hx hb dL_act_296 rfl ?_
          refine lv_aload_n hx hb dL_act_297 rfl (lv_at hl 2 rfl) ?_
          refine r_bipush hx hb dL_act_298 (by decide) ?_
          refine lv_iload_n hx hb dL_act_300 rfl (lv_at hl 4 rfl) ?_
          refine r_iconst hx hb dL_act_301 ?_
          refine r_ishr hx hb dL_act_302 ?_
          refine r_bipush hx hb dL_act_303 (by decide) ?_
          refine k_Si (host := "") C0 hW (As := [.int (iI (shr u 2)), .int (iI 8)]) (c_L_low l G w93 (shr u 2) 8 (shr_r _ _) ⟨by omega, by omega⟩ (by omega)) km_L_31 ks_L_low kn_L kc_L_low rfl hdS_L_low ⟨by decide, by decide⟩ rfl hl.1 rfl (Nat.le_of_ble_eq_true rfl) dL_act_305 (fun z94 w94 H1 locs1 rz94 hp94 hW => ?_)
          obtain ⟨hp94, hq94⟩ := hp94
          subst hq94
          have rz94a := rz94.1
          have rz94b := rz94.2
          subst hp94
          have rl94 := lowF_in (shr u 2) (n := 8) (by omega) (by omega)
          refine r_iadd hx hb dL_act_308 ?_
          refine r_i2c hx hb dL_act_309 ?_
          have hnar : vp_nar .char (iI (chv (50 + (lowF (shr u 2) 8)))) = iI (chv (50 + (lowF (shr u 2) 8))) := chv_n _
          refine k_Vi (j := 0) (k0 := 0) C0 hW (c_X5_type l G w93 (hO) (chv (50 + (lowF (shr u 2) 8))) (chv_r _) (hnar)) km_L_70 ki_X5_type ke_X5_type kn_X5 kc_X5_type rfl hdV_X5_type ⟨by decide, by decide⟩ (show 0 < 11 ∧ 0 < bs 0 from ⟨by decide, by decide⟩) rfl rfl rfl hl.1 rfl (Nat.le_of_ble_eq_true rfl) dL_act_310 (fun z95 w95 H1 locs1 rz95 hp95 hW => ?_)
          have rz95a := rz95.1
          have rz95b := rz95.2
          have hO := okW_type hO hp95
          refine lv_pop hx hb dL_act_313 rfl ?_
          refine lv_aload_n hx hb dL_act_314 rfl (lv_at hl 2 rfl) ?_
          refine k_Vi (j := 0) (k0 := 0) C0 hW (c_X5_passAll l G w95 (hO)) km_L_74 ki_X5_passAll ke_X5_passAll kn_X5 kc_X5_passAll rfl hdV_X5_passAll ⟨by decide, by decide⟩ (show 0 < 11 ∧ 0 < bs 0 from ⟨by decide, by decide⟩) rfl rfl rfl hl.1 rfl (Nat.le_of_ble_eq_true rfl) dL_act_315 (fun z96 w96 H1 locs1 rz96 hp96 hW => ?_)
          have rz96a := rz96.1
          have rz96b := rz96.2
          exact r_iret C0 hW rz96 (by exact Or.inr (Or.inr (Or.inr (Or.inr (Or.inr (Or.inr (Or.inr (Or.inr (Or.inr (Or.inr (Or.inl (⟨by first | assumption | omega, ⟨_, _, _, _, _, _, hp82, by rw [if_pos (by assumption)]; exact hp93, hp95, hp96⟩⟩)))))))))))) dL_act_318
  · refine r_bipush hx hb dL_act_13 (by decide) ?_
    refine lv_goto (tgt := 19) hx hb dL_act_15 (by decide) ?_
    refine k_Si (host := "") C0 hW (As := [.int (iI (shr v 4)), .int (iI 11)]) (c_L_low l G w (shr v 4) 11 (shr_r _ _) ⟨by omega, by omega⟩ (by omega)) km_L_31 ks_L_low kn_L kc_L_low rfl hdS_L_low ⟨by decide, by decide⟩ rfl hl.1 rfl (Nat.le_of_ble_eq_true rfl) dL_act_19 (fun z97 w97 H1 locs1 rz97 hp97 hW => ?_)
    obtain ⟨hp97, hq97⟩ := hp97
    subst hq97
    have rz97a := rz97.1
    have rz97b := rz97.2
    subst hp97
    have rl97 := lowF_in (shr v 4) (n := 11) (by omega) (by omega)
    rw [show (lowF (shr v 4) 11) = whoF v from by unfold whoF; first | rw [if_pos (by assumption)] | rw [if_neg (by assumption)]]
    have hwho := whoF_in v
    refine lv_istore_n (lv' := [(3, .int (iI (whoF v))), (0, .ref (ad G 0 0)), (1, .int (iI v)), (2, .int (iI u))]) hx hb dL_act_22 rfl hl (by decide) rfl (fun ls hl => ?_)
    refine lv_aload_n hx hb dL_act_23 rfl (lv_at hl 1 rfl) ?_
    refine r_iconst hx hb dL_act_24 ?_
    refine k_Vi (j := 0) (k0 := 0) C0 hW (c_X5_count l G w (hO) 3 ⟨by omega, by omega⟩) km_L_12 ki_X5_count ke_X5_count kn_X5 kc_X5_count rfl hdV_X5_count ⟨by decide, by decide⟩ (show 0 < 11 ∧ 0 < bs 0 from ⟨by decide, by decide⟩) rfl rfl rfl hl.1 rfl (Nat.le_of_ble_eq_true rfl) dL_act_25 (fun z98 w98 H1 locs1 rz98 hp98 hW => ?_)
    have hv98 := cv_cnt hp98 rz98 (by omega)
    clear hp98
    obtain ⟨hp98, hq98⟩ := hv98
    subst hq98
    replace hp98 : z98 = gN (w 1) 7 6 := hp98
    have rz98a := rz98.1
    have rz98b := rz98.2
    refine r_if_ne (tgt := 35) hx hb rz98 dL_act_28 (by decide) (fun c99 => ?_) (fun c99 => ?_)
    · refine lv_iload_n hx hb dL_act_35 rfl (lv_at hl 2 rfl) ?_
      refine r_iconst hx hb dL_act_36 ?_
      refine r_ishr hx hb dL_act_37 ?_
      refine lv_aload_n hx hb dL_act_38 rfl (lv_at hl 1 rfl) ?_
      refine r_iconst hx hb dL_act_39 ?_
      refine k_Vi (j := 0) (k0 := 0) C0 hW (c_X5_count l G w (hO) 3 ⟨by omega, by omega⟩) km_L_12 ki_X5_count ke_X5_count kn_X5 kc_X5_count rfl hdV_X5_count ⟨by decide, by decide⟩ (show 0 < 11 ∧ 0 < bs 0 from ⟨by decide, by decide⟩) rfl rfl rfl hl.1 rfl (Nat.le_of_ble_eq_true rfl) dL_act_40 (fun z100 w100 H1 locs1 rz100 hp100 hW => ?_)
      have hv100 := cv_cnt hp100 rz100 (by omega)
      clear hp100
      obtain ⟨hp100, hq100⟩ := hv100
      subst hq100
      replace hp100 : z100 = gN (w 1) 7 6 := hp100
      have rz100a := rz100.1
      have rz100b := rz100.2
      refine r_iconst hx hb dL_act_43 ?_
      refine r_iadd hx hb dL_act_44 ?_
      refine k_Si (host := "") C0 hW (As := [.int (iI (shr v 4)), .int (iI (z100 + 1))]) (c_L_low l G w (shr v 4) (z100 + 1) (shr_r _ _) ⟨by omega, by omega⟩ (by omega)) km_L_31 ks_L_low kn_L kc_L_low rfl hdS_L_low ⟨by decide, by decide⟩ rfl hl.1 rfl (Nat.le_of_ble_eq_true rfl) dL_act_45 (fun z101 w101 H1 locs1 rz101 hp101 hW => ?_)
      obtain ⟨hp101, hq101⟩ := hp101
      subst hq101
      have rz101a := rz101.1
      have rz101b := rz101.2
      subst hp101
      have rl101 := lowF_in (shr v 4) (n := (z100 + 1)) (by omega) (by omega)
      rw [show (lowF (shr v 4) (z100 + 1)) = rowA (w 1) v from by unfold rowA; rw [if_neg (by omega), hp100]]
      refine lv_istore (lv' := [(4, .int (iI (rowA (w 1) v))), (3, .int (iI (whoF v))), (0, .ref (ad G 0 0)), (1, .int (iI v)), (2, .int (iI u))]) hx hb dL_act_48 hl (by decide) rfl (fun ls hl => ?_)
      refine lv_iload_n hx hb dL_act_50 rfl (lv_at hl 3 rfl) ?_
      refine r_bipush hx hb dL_act_51 (by decide) ?_
      refine r_iand hx hb dL_act_53 ?_
      by_cases c102 : (land v 15) < 0 ∨ 11 < (land v 15)
      · refine r_tabOut (tgt := 319) hx hb (land_r _ _) dL_act_54 c102 (by decide) ?_
        refine lv_aload_n hx hb dL_act_319 rfl (lv_at hl 2 rfl) ?_
        refine lv_iload_n hx hb dL_act_320 rfl (lv_at hl 4 rfl) ?_
        refine r_iconst hx hb dL_act_321 ?_
        refine k_Si (host := "") C0 hW (As := [.int (iI u), .int (iI 4)]) (c_L_low l G w u 4 ru ⟨by omega, by omega⟩ (by omega)) km_L_31 ks_L_low kn_L kc_L_low rfl hdS_L_low ⟨by decide, by decide⟩ rfl hl.1 rfl (Nat.le_of_ble_eq_true rfl) dL_act_322 (fun z103 w103 H1 locs1 rz103 hp103 hW => ?_)
        obtain ⟨hp103, hq103⟩ := hp103
        subst hq103
        have rz103a := rz103.1
        have rz103b := rz103.2
        subst hp103
        have rl103 := lowF_in u (n := 4) (by omega) (by omega)
        refine k_Vi (j := 0) (k0 := 0) C0 hW (c_X5_pass l G w (hO) (lowF u 4) (lowF_r _ _)) km_L_77 ki_X5_pass ke_X5_pass kn_X5 kc_X5_pass rfl hdV_X5_pass ⟨by decide, by decide⟩ (show 0 < 11 ∧ 0 < bs 0 from ⟨by decide, by decide⟩) rfl rfl rfl hl.1 rfl (Nat.le_of_ble_eq_true rfl) dL_act_325 (fun z104 w104 H1 locs1 rz104 hp104 hW => ?_)
        have rz104a := rz104.1
        have rz104b := rz104.2
        exact r_iret C0 hW rz104 (by exact Or.inr (Or.inr (Or.inr (Or.inr (Or.inr (Or.inr (Or.inr (Or.inr (Or.inr (Or.inr (Or.inr (⟨by first | assumption | omega, hp104⟩)))))))))))) dL_act_328
      have c102 : (land v 15) = 0 ∨ (land v 15) = 1 ∨ (land v 15) = 2 ∨ (land v 15) = 3 ∨ (land v 15) = 4 ∨ (land v 15) = 5 ∨ (land v 15) = 6 ∨ (land v 15) = 7 ∨ (land v 15) = 8 ∨ (land v 15) = 9 ∨ (land v 15) = 10 ∨ (land v 15) = 11 := by omega
      rcases c102 with c102 | c102 | c102 | c102 | c102 | c102 | c102 | c102 | c102 | c102 | c102 | c102
      · refine r_tabIn (tgt := 116) hx hb (land_r _ _) dL_act_54 (by omega) (by omega) (by rw [c102]; rfl) (by decide) ?_
        refine lv_iload_n hx hb dL_act_116 rfl (lv_at hl 4 rfl) ?_
        refine r_iconst hx hb dL_act_117 ?_
        refine r_iand hx hb dL_act_118 ?_
        refine r_if_ne (tgt := 145) hx hb (land_r _ _) dL_act_119 (by decide) (fun c105 => ?_) (fun c105 => ?_)
        · refine lv_aload_n hx hb dL_act_145 rfl (lv_at hl 2 rfl) ?_
          refine lv_iload_n hx hb dL_act_146 rfl (lv_at hl 3 rfl) ?_
          refine r_iconst hx hb dL_act_147 ?_
          refine r_ishr hx hb dL_act_148 ?_
          refine r_bipush hx hb dL_act_149 (by decide) ?_
          refine k_Si (host := "") C0 hW (As := [.int (iI (shr v 4)), .int (iI 21)]) (c_L_low l G w (shr v 4) 21 (shr_r _ _) ⟨by omega, by omega⟩ (by omega)) km_L_31 ks_L_low kn_L kc_L_low rfl hdS_L_low ⟨by decide, by decide⟩ rfl hl.1 rfl (Nat.le_of_ble_eq_true rfl) dL_act_151 (fun z106 w106 H1 locs1 rz106 hp106 hW => ?_)
          obtain ⟨hp106, hq106⟩ := hp106
          subst hq106
          have rz106a := rz106.1
          have rz106b := rz106.2
          subst hp106
          have rl106 := lowF_in (shr v 4) (n := 21) (by omega) (by omega)
          refine lv_iload_n hx hb dL_act_154 rfl (lv_at hl 4 rfl) ?_
          refine r_iconst hx hb dL_act_155 ?_
          refine r_ishr hx hb dL_act_156 ?_
          refine r_bipush hx hb dL_act_157 (by decide) ?_
          refine k_Si (host := "") C0 hW (As := [.int (iI (shr u 1)), .int (iI 10)]) (c_L_low l G w (shr u 1) 10 (shr_r _ _) ⟨by omega, by omega⟩ (by omega)) km_L_31 ks_L_low kn_L kc_L_low rfl hdS_L_low ⟨by decide, by decide⟩ rfl hl.1 rfl (Nat.le_of_ble_eq_true rfl) dL_act_159 (fun z107 w107 H1 locs1 rz107 hp107 hW => ?_)
          obtain ⟨hp107, hq107⟩ := hp107
          subst hq107
          have rz107a := rz107.1
          have rz107b := rz107.2
          subst hp107
          have rl107 := lowF_in (shr u 1) (n := 10) (by omega) (by omega)
          refine k_Vi (j := 0) (k0 := 0) C0 hW (c_X5_handOver l G w (hO) (lowF (shr v 4) 21) (lowF (shr u 1) 10) (lowF_r _ _) (lowF_r _ _)) km_L_39 ki_X5_handOver ke_X5_handOver kn_X5 kc_X5_handOver rfl hdV_X5_handOver ⟨by decide, by decide⟩ (show 0 < 11 ∧ 0 < bs 0 from ⟨by decide, by decide⟩) rfl rfl rfl hl.1 rfl (Nat.le_of_ble_eq_true rfl) dL_act_162 (fun z108 w108 H1 locs1 rz108 hp108 hW => ?_)
          have rz108a := rz108.1
          have rz108b := rz108.2
          exact r_iret C0 hW rz108 (by exact Or.inr (Or.inl (⟨by first | assumption | omega, by first | assumption | omega, hp108⟩))) dL_act_165
        · refine lv_aload_n hx hb dL_act_122 rfl (lv_at hl 2 rfl) ?_
          refine lv_iload_n hx hb dL_act_123 rfl (lv_at hl 3 rfl) ?_
          refine r_iconst hx hb dL_act_124 ?_
          refine r_ishr hx hb dL_act_125 ?_
          refine r_bipush hx hb dL_act_126 (by decide) ?_
          refine k_Si (host := "") C0 hW (As := [.int (iI (shr v 4)), .int (iI 21)]) (c_L_low l G w (shr v 4) 21 (shr_r _ _) ⟨by omega, by omega⟩ (by omega)) km_L_31 ks_L_low kn_L kc_L_low rfl hdS_L_low ⟨by decide, by decide⟩ rfl hl.1 rfl (Nat.le_of_ble_eq_true rfl) dL_act_128 (fun z109 w109 H1 locs1 rz109 hp109 hW => ?_)
          obtain ⟨hp109, hq109⟩ := hp109
          subst hq109
          have rz109a := rz109.1
          have rz109b := rz109.2
          subst hp109
          have rl109 := lowF_in (shr v 4) (n := 21) (by omega) (by omega)
          refine lv_iload_n hx hb dL_act_131 rfl (lv_at hl 4 rfl) ?_
          refine r_iconst hx hb dL_act_132 ?_
          refine r_ishr hx hb dL_act_133 ?_
          refine r_bipush hx hb dL_act_134 (by decide) ?_
          refine k_Si (host := "") C0 hW (As := [.int (iI (shr u 1)), .int (iI 10)]) (c_L_low l G w (shr u 1) 10 (shr_r _ _) ⟨by omega, by omega⟩ (by omega)) km_L_31 ks_L_low kn_L kc_L_low rfl hdS_L_low ⟨by decide, by decide⟩ rfl hl.1 rfl (Nat.le_of_ble_eq_true rfl) dL_act_136 (fun z110 w110 H1 locs1 rz110 hp110 hW => ?_)
          obtain ⟨hp110, hq110⟩ := hp110
          subst hq110
          have rz110a := rz110.1
          have rz110b := rz110.2
          subst hp110
          have rl110 := lowF_in (shr u 1) (n := 10) (by omega) (by omega)
          refine k_Vi (j := 0) (k0 := 0) C0 hW (c_X5_lend l G w (hO) (lowF (shr v 4) 21) (lowF (shr u 1) 10) (lowF_r _ _) (lowF_r _ _)) km_L_36 ki_X5_lend ke_X5_lend kn_X5 kc_X5_lend rfl hdV_X5_lend ⟨by decide, by decide⟩ (show 0 < 11 ∧ 0 < bs 0 from ⟨by decide, by decide⟩) rfl rfl rfl hl.1 rfl (Nat.le_of_ble_eq_true rfl) dL_act_139 (fun z111 w111 H1 locs1 rz111 hp111 hW => ?_)
          have rz111a := rz111.1
          have rz111b := rz111.2
          refine lv_goto (tgt := 165) hx hb dL_act_142 (by decide) ?_
          exact r_iret C0 hW rz111 (by exact Or.inl (⟨by first | assumption | omega, by first | assumption | omega, hp111⟩)) dL_act_165
      · refine r_tabIn (tgt := 166) hx hb (land_r _ _) dL_act_54 (by omega) (by omega) (by rw [c102]; rfl) (by decide) ?_
        refine lv_iload_n hx hb dL_act_166 rfl (lv_at hl 4 rfl) ?_
        refine r_iconst hx hb dL_act_167 ?_
        refine r_iand hx hb dL_act_168 ?_
        refine r_if_ne (tgt := 188) hx hb (land_r _ _) dL_act_169 (by decide) (fun c112 => ?_) (fun c112 => ?_)
        · refine lv_aload_n hx hb dL_act_188 rfl (lv_at hl 2 rfl) ?_
          refine lv_iload_n hx hb dL_act_189 rfl (lv_at hl 4 rfl) ?_
          refine r_iconst hx hb dL_act_190 ?_
          refine r_ishr hx hb dL_act_191 ?_
          refine r_iconst hx hb dL_act_192 ?_
          refine k_Si (host := "") C0 hW (As := [.int (iI (shr u 1)), .int (iI 3)]) (c_L_low l G w (shr u 1) 3 (shr_r _ _) ⟨by omega, by omega⟩ (by omega)) km_L_31 ks_L_low kn_L kc_L_low rfl hdS_L_low ⟨by decide, by decide⟩ rfl hl.1 rfl (Nat.le_of_ble_eq_true rfl) dL_act_193 (fun z113 w113 H1 locs1 rz113 hp113 hW => ?_)
          obtain ⟨hp113, hq113⟩ := hp113
          subst hq113
          have rz113a := rz113.1
          have rz113b := rz113.2
          subst hp113
          have rl113 := lowF_in (shr u 1) (n := 3) (by omega) (by omega)
          refine lv_iload_n hx hb dL_act_196 rfl (lv_at hl 4 rfl) ?_
          refine r_iconst hx hb dL_act_197 ?_
          refine r_ishr hx hb dL_act_198 ?_
          refine r_bipush hx hb dL_act_199 (by decide) ?_
          refine k_Si (host := "") C0 hW (As := [.int (iI (shr u 3)), .int (iI 8)]) (c_L_low l G w (shr u 3) 8 (shr_r _ _) ⟨by omega, by omega⟩ (by omega)) km_L_31 ks_L_low kn_L kc_L_low rfl hdS_L_low ⟨by decide, by decide⟩ rfl hl.1 rfl (Nat.le_of_ble_eq_true rfl) dL_act_201 (fun z114 w114 H1 locs1 rz114 hp114 hW => ?_)
          obtain ⟨hp114, hq114⟩ := hp114
          subst hq114
          have rz114a := rz114.1
          have rz114b := rz114.2
          subst hp114
          have rl114 := lowF_in (shr u 3) (n := 8) (by omega) (by omega)
          refine k_Vi (j := 0) (k0 := 0) C0 hW (c_X5_set l G w (hO) (lowF (shr u 1) 3) (lowF (shr u 3) 8) (lowF_r _ _) (lowF_r _ _)) km_L_45 ki_X5_set ke_X5_set kn_X5 kc_X5_set rfl hdV_X5_set ⟨by decide, by decide⟩ (show 0 < 11 ∧ 0 < bs 0 from ⟨by decide, by decide⟩) rfl rfl rfl hl.1 rfl (Nat.le_of_ble_eq_true rfl) dL_act_204 (fun z115 w115 H1 locs1 rz115 hp115 hW => ?_)
          have rz115a := rz115.1
          have rz115b := rz115.2
          exact r_iret C0 hW rz115 (by exact Or.inr (Or.inr (Or.inr (Or.inl (⟨by first | assumption | omega, by first | assumption | omega, hp115⟩))))) dL_act_207
        · refine lv_aload_n hx hb dL_act_172 rfl (lv_at hl 2 rfl) ?_
          refine lv_iload_n hx hb dL_act_173 rfl (lv_at hl 1 rfl) ?_
          refine lv_iload_n hx hb dL_act_174 rfl (lv_at hl 4 rfl) ?_
          refine r_iconst hx hb dL_act_175 ?_
          refine r_ishr hx hb dL_act_176 ?_
          refine r_bipush hx hb dL_act_177 (by decide) ?_
          refine k_Si (host := "") C0 hW (As := [.int (iI (shr u 1)), .int (iI 22)]) (c_L_low l G w (shr u 1) 22 (shr_r _ _) ⟨by omega, by omega⟩ (by omega)) km_L_31 ks_L_low kn_L kc_L_low rfl hdS_L_low ⟨by decide, by decide⟩ rfl hl.1 rfl (Nat.le_of_ble_eq_true rfl) dL_act_179 (fun z116 w116 H1 locs1 rz116 hp116 hW => ?_)
          obtain ⟨hp116, hq116⟩ := hp116
          subst hq116
          have rz116a := rz116.1
          have rz116b := rz116.2
          subst hp116
          have rl116 := lowF_in (shr u 1) (n := 22) (by omega) (by omega)
          refine k_Vi (j := 0) (k0 := 0) C0 hW (c_X5_setDays l G w (hO) (whoF v) (lowF (shr u 1) 22) (lowF_r _ _) (lowF_r _ _)) km_L_42 ki_X5_setDays ke_X5_setDays kn_X5 kc_X5_setDays rfl hdV_X5_setDays ⟨by decide, by decide⟩ (show 0 < 11 ∧ 0 < bs 0 from ⟨by decide, by decide⟩) rfl rfl rfl hl.1 rfl (Nat.le_of_ble_eq_true rfl) dL_act_182 (fun z117 w117 H1 locs1 rz117 hp117 hW => ?_)
          have rz117a := rz117.1
          have rz117b := rz117.2
          refine lv_goto (tgt := 207) hx hb dL_act_185 (by decide) ?_
          exact r_iret C0 hW rz117 (by exact Or.inr (Or.inr (Or.inl (⟨by first | assumption | omega, by first | assumption | omega, hp117⟩)))) dL_act_207
      · refine r_tabIn (tgt := 208) hx hb (land_r _ _) dL_act_54 (by omega) (by omega) (by rw [c102]; rfl) (by decide) ?_
        refine lv_aload_n hx hb dL_act_208 rfl (lv_at hl 2 rfl) ?_
        refine lv_iload_n hx hb dL_act_209 rfl (lv_at hl 1 rfl) ?_
        refine r_iconst hx hb dL_act_210 ?_
        refine lv_iload_n hx hb dL_act_211 rfl (lv_at hl 1 rfl) ?_
        refine r_imul hx hb dL_act_212 ?_
        refine lv_iload_n hx hb dL_act_213 rfl (lv_at hl 4 rfl) ?_
        refine r_iconst hx hb dL_act_214 ?_
        refine k_Si (host := "") C0 hW (As := [.int (iI u), .int (iI 4)]) (c_L_low l G w u 4 ru ⟨by omega, by omega⟩ (by omega)) km_L_31 ks_L_low kn_L kc_L_low rfl hdS_L_low ⟨by decide, by decide⟩ rfl hl.1 rfl (Nat.le_of_ble_eq_true rfl) dL_act_215 (fun z118 w118 H1 locs1 rz118 hp118 hW => ?_)
        obtain ⟨hp118, hq118⟩ := hp118
        subst hq118
        have rz118a := rz118.1
        have rz118b := rz118.2
        subst hp118
        have rl118 := lowF_in u (n := 4) (by omega) (by omega)
        refine r_iadd hx hb dL_act_218 ?_
        refine r_iconst hx hb dL_act_219 ?_
        refine r_isub hx hb dL_act_220 ?_
        refine k_Vi (j := 0) (k0 := 0) C0 hW (c_X5_cut l G w (hO) (whoF v) (((2 * (whoF v)) + (lowF u 4)) - 1) (lowF_r _ _) ⟨by omega, by omega⟩) km_L_48 ki_X5_cut ke_X5_cut kn_X5 kc_X5_cut rfl hdV_X5_cut ⟨by decide, by decide⟩ (show 0 < 11 ∧ 0 < bs 0 from ⟨by decide, by decide⟩) rfl rfl rfl hl.1 rfl (Nat.le_of_ble_eq_true rfl) dL_act_221 (fun z119 w119 H1 locs1 rz119 hp119 hW => ?_)
        have rz119a := rz119.1
        have rz119b := rz119.2
        exact r_iret C0 hW rz119 (by exact Or.inr (Or.inr (Or.inr (Or.inr (Or.inl (⟨by first | assumption | omega, hp119⟩)))))) dL_act_224
      · refine r_tabIn (tgt := 208) hx hb (land_r _ _) dL_act_54 (by omega) (by omega) (by rw [c102]; rfl) (by decide) ?_
        refine lv_aload_n hx hb dL_act_208 rfl (lv_at hl 2 rfl) ?_
        refine lv_iload_n hx hb dL_act_209 rfl (lv_at hl 1 rfl) ?_
        refine r_iconst hx hb dL_act_210 ?_
        refine lv_iload_n hx hb dL_act_211 rfl (lv_at hl 1 rfl) ?_
        refine r_imul hx hb dL_act_212 ?_
        refine lv_iload_n hx hb dL_act_213 rfl (lv_at hl 4 rfl) ?_
        refine r_iconst hx hb dL_act_214 ?_
        refine k_Si (host := "") C0 hW (As := [.int (iI u), .int (iI 4)]) (c_L_low l G w u 4 ru ⟨by omega, by omega⟩ (by omega)) km_L_31 ks_L_low kn_L kc_L_low rfl hdS_L_low ⟨by decide, by decide⟩ rfl hl.1 rfl (Nat.le_of_ble_eq_true rfl) dL_act_215 (fun z120 w120 H1 locs1 rz120 hp120 hW => ?_)
        obtain ⟨hp120, hq120⟩ := hp120
        subst hq120
        have rz120a := rz120.1
        have rz120b := rz120.2
        subst hp120
        have rl120 := lowF_in u (n := 4) (by omega) (by omega)
        refine r_iadd hx hb dL_act_218 ?_
        refine r_iconst hx hb dL_act_219 ?_
        refine r_isub hx hb dL_act_220 ?_
        refine k_Vi (j := 0) (k0 := 0) C0 hW (c_X5_cut l G w (hO) (whoF v) (((2 * (whoF v)) + (lowF u 4)) - 1) (lowF_r _ _) ⟨by omega, by omega⟩) km_L_48 ki_X5_cut ke_X5_cut kn_X5 kc_X5_cut rfl hdV_X5_cut ⟨by decide, by decide⟩ (show 0 < 11 ∧ 0 < bs 0 from ⟨by decide, by decide⟩) rfl rfl rfl hl.1 rfl (Nat.le_of_ble_eq_true rfl) dL_act_221 (fun z121 w121 H1 locs1 rz121 hp121 hW => ?_)
        have rz121a := rz121.1
        have rz121b := rz121.2
        exact r_iret C0 hW rz121 (by exact Or.inr (Or.inr (Or.inr (Or.inr (Or.inl (⟨by first | assumption | omega, hp121⟩)))))) dL_act_224
      · refine r_tabIn (tgt := 208) hx hb (land_r _ _) dL_act_54 (by omega) (by omega) (by rw [c102]; rfl) (by decide) ?_
        refine lv_aload_n hx hb dL_act_208 rfl (lv_at hl 2 rfl) ?_
        refine lv_iload_n hx hb dL_act_209 rfl (lv_at hl 1 rfl) ?_
        refine r_iconst hx hb dL_act_210 ?_
        refine lv_iload_n hx hb dL_act_211 rfl (lv_at hl 1 rfl) ?_
        refine r_imul hx hb dL_act_212 ?_
        refine lv_iload_n hx hb dL_act_213 rfl (lv_at hl 4 rfl) ?_
        refine r_iconst hx hb dL_act_214 ?_
        refine k_Si (host := "") C0 hW (As := [.int (iI u), .int (iI 4)]) (c_L_low l G w u 4 ru ⟨by omega, by omega⟩ (by omega)) km_L_31 ks_L_low kn_L kc_L_low rfl hdS_L_low ⟨by decide, by decide⟩ rfl hl.1 rfl (Nat.le_of_ble_eq_true rfl) dL_act_215 (fun z122 w122 H1 locs1 rz122 hp122 hW => ?_)
        obtain ⟨hp122, hq122⟩ := hp122
        subst hq122
        have rz122a := rz122.1
        have rz122b := rz122.2
        subst hp122
        have rl122 := lowF_in u (n := 4) (by omega) (by omega)
        refine r_iadd hx hb dL_act_218 ?_
        refine r_iconst hx hb dL_act_219 ?_
        refine r_isub hx hb dL_act_220 ?_
        refine k_Vi (j := 0) (k0 := 0) C0 hW (c_X5_cut l G w (hO) (whoF v) (((2 * (whoF v)) + (lowF u 4)) - 1) (lowF_r _ _) ⟨by omega, by omega⟩) km_L_48 ki_X5_cut ke_X5_cut kn_X5 kc_X5_cut rfl hdV_X5_cut ⟨by decide, by decide⟩ (show 0 < 11 ∧ 0 < bs 0 from ⟨by decide, by decide⟩) rfl rfl rfl hl.1 rfl (Nat.le_of_ble_eq_true rfl) dL_act_221 (fun z123 w123 H1 locs1 rz123 hp123 hW => ?_)
        have rz123a := rz123.1
        have rz123b := rz123.2
        exact r_iret C0 hW rz123 (by exact Or.inr (Or.inr (Or.inr (Or.inr (Or.inl (⟨by first | assumption | omega, hp123⟩)))))) dL_act_224
      · refine r_tabIn (tgt := 225) hx hb (land_r _ _) dL_act_54 (by omega) (by omega) (by rw [c102]; rfl) (by decide) ?_
        refine lv_aload_n hx hb dL_act_225 rfl (lv_at hl 2 rfl) ?_
        refine lv_iload hx hb dL_act_226 (lv_at hl 0 rfl) ?_
        refine k_Vi (j := 0) (k0 := 0) C0 hW (c_X5_turn l G w (hO) (rowA (w 1) v) (rowA_r _ _)) km_L_51 ki_X5_turn ke_X5_turn kn_X5 kc_X5_turn rfl hdV_X5_turn ⟨by decide, by decide⟩ (show 0 < 11 ∧ 0 < bs 0 from ⟨by decide, by decide⟩) rfl rfl rfl hl.1 rfl (Nat.le_of_ble_eq_true rfl) dL_act_228 (fun z124 w124 H1 locs1 rz124 hp124 hW => ?_)
        have rz124a := rz124.1
        have rz124b := rz124.2
        exact r_iret C0 hW rz124 (by exact Or.inr (Or.inr (Or.inr (Or.inr (Or.inr (Or.inl (⟨by first | assumption | omega, hp124⟩))))))) dL_act_231
      · refine r_tabIn (tgt := 225) hx hb (land_r _ _) dL_act_54 (by omega) (by omega) (by rw [c102]; rfl) (by decide) ?_
        refine lv_aload_n hx hb dL_act_225 rfl (lv_at hl 2 rfl) ?_
        refine lv_iload hx hb dL_act_226 (lv_at hl 0 rfl) ?_
        refine k_Vi (j := 0) (k0 := 0) C0 hW (c_X5_turn l G w (hO) (rowA (w 1) v) (rowA_r _ _)) km_L_51 ki_X5_turn ke_X5_turn kn_X5 kc_X5_turn rfl hdV_X5_turn ⟨by decide, by decide⟩ (show 0 < 11 ∧ 0 < bs 0 from ⟨by decide, by decide⟩) rfl rfl rfl hl.1 rfl (Nat.le_of_ble_eq_true rfl) dL_act_228 (fun z125 w125 H1 locs1 rz125 hp125 hW => ?_)
        have rz125a := rz125.1
        have rz125b := rz125.2
        exact r_iret C0 hW rz125 (by exact Or.inr (Or.inr (Or.inr (Or.inr (Or.inr (Or.inl (⟨by first | assumption | omega, hp125⟩))))))) dL_act_231
      · refine r_tabIn (tgt := 232) hx hb (land_r _ _) dL_act_54 (by omega) (by omega) (by rw [c102]; rfl) (by decide) ?_
        refine lv_aload_n hx hb dL_act_232 rfl (lv_at hl 2 rfl) ?_
        refine lv_iload hx hb dL_act_233 (lv_at hl 0 rfl) ?_
        refine k_Vi (j := 0) (k0 := 0) C0 hW (c_X5_stack l G w (hO) (rowA (w 1) v) (rowA_r _ _)) km_L_54 ki_X5_stack ke_X5_stack kn_X5 kc_X5_stack rfl hdV_X5_stack ⟨by decide, by decide⟩ (show 0 < 11 ∧ 0 < bs 0 from ⟨by decide, by decide⟩) rfl rfl rfl hl.1 rfl (Nat.le_of_ble_eq_true rfl) dL_act_235 (fun z126 w126 H1 locs1 rz126 hp126 hW => ?_)
        have rz126a := rz126.1
        have rz126b := rz126.2
        exact r_iret C0 hW rz126 (by exact Or.inr (Or.inr (Or.inr (Or.inr (Or.inr (Or.inr (Or.inl (⟨by first | assumption | omega, hp126⟩)))))))) dL_act_238
      · refine r_tabIn (tgt := 232) hx hb (land_r _ _) dL_act_54 (by omega) (by omega) (by rw [c102]; rfl) (by decide) ?_
        refine lv_aload_n hx hb dL_act_232 rfl (lv_at hl 2 rfl) ?_
        refine lv_iload hx hb dL_act_233 (lv_at hl 0 rfl) ?_
        refine k_Vi (j := 0) (k0 := 0) C0 hW (c_X5_stack l G w (hO) (rowA (w 1) v) (rowA_r _ _)) km_L_54 ki_X5_stack ke_X5_stack kn_X5 kc_X5_stack rfl hdV_X5_stack ⟨by decide, by decide⟩ (show 0 < 11 ∧ 0 < bs 0 from ⟨by decide, by decide⟩) rfl rfl rfl hl.1 rfl (Nat.le_of_ble_eq_true rfl) dL_act_235 (fun z127 w127 H1 locs1 rz127 hp127 hW => ?_)
        have rz127a := rz127.1
        have rz127b := rz127.2
        exact r_iret C0 hW rz127 (by exact Or.inr (Or.inr (Or.inr (Or.inr (Or.inr (Or.inr (Or.inl (⟨by first | assumption | omega, hp127⟩)))))))) dL_act_238
      · refine r_tabIn (tgt := 239) hx hb (land_r _ _) dL_act_54 (by omega) (by omega) (by rw [c102]; rfl) (by decide) ?_
        refine lv_aload_n hx hb dL_act_239 rfl (lv_at hl 2 rfl) ?_
        refine k_Vi (j := 0) (k0 := 0) C0 hW (c_X5_settle l G w (hO)) km_L_57 ki_X5_settle ke_X5_settle kn_X5 kc_X5_settle rfl hdV_X5_settle ⟨by decide, by decide⟩ (show 0 < 11 ∧ 0 < bs 0 from ⟨by decide, by decide⟩) rfl rfl rfl hl.1 rfl (Nat.le_of_ble_eq_true rfl) dL_act_240 (fun z128 w128 H1 locs1 rz128 hp128 hW => ?_)
        have rz128a := rz128.1
        have rz128b := rz128.2
        exact r_iret C0 hW rz128 (by exact Or.inr (Or.inr (Or.inr (Or.inr (Or.inr (Or.inr (Or.inr (Or.inl (⟨by first | assumption | omega, hp128⟩))))))))) dL_act_243
      · refine r_tabIn (tgt := 244) hx hb (land_r _ _) dL_act_54 (by omega) (by omega) (by rw [c102]; rfl) (by decide) ?_
        refine lv_iload_n hx hb dL_act_244 rfl (lv_at hl 4 rfl) ?_
        refine r_iconst hx hb dL_act_245 ?_
        refine r_iand hx hb dL_act_246 ?_
        refine r_if_ne (tgt := 257) hx hb (land_r _ _) dL_act_247 (by decide) (fun c129 => ?_) (fun c129 => ?_)
        · refine lv_aload_n hx hb dL_act_257 rfl (lv_at hl 2 rfl) ?_
          refine k_Vi (j := 0) (k0 := 0) C0 hW (c_X5_restore l G w (hO)) km_L_64 ki_X5_restore ke_X5_restore kn_X5 kc_X5_restore rfl hdV_X5_restore ⟨by decide, by decide⟩ (show 0 < 11 ∧ 0 < bs 0 from ⟨by decide, by decide⟩) rfl rfl rfl hl.1 rfl (Nat.le_of_ble_eq_true rfl) dL_act_258 (fun z130 w130 H1 locs1 rz130 hp130 hW => ?_)
          have rz130a := rz130.1
          have rz130b := rz130.2
          exact r_iret C0 hW rz130 (by exact Or.inr (Or.inr (Or.inr (Or.inr (Or.inr (Or.inr (Or.inr (Or.inr (Or.inr (Or.inl (⟨by first | assumption | omega, by first | assumption | omega, hp130⟩))))))))))) dL_act_261
        · refine lv_aload_n hx hb dL_act_250 rfl (lv_at hl 2 rfl) ?_
          refine k_Vi (j := 0) (k0 := 0) C0 hW (c_X5_endYear l G w (hO)) km_L_61 ki_X5_endYear ke_X5_endYear kn_X5 kc_X5_endYear rfl hdV_X5_endYear ⟨by decide, by decide⟩ (show 0 < 11 ∧ 0 < bs 0 from ⟨by decide, by decide⟩) rfl rfl rfl hl.1 rfl (Nat.le_of_ble_eq_true rfl) dL_act_251 (fun z131 w131 H1 locs1 rz131 hp131 hW => ?_)
          have rz131a := rz131.1
          have rz131b := rz131.2
          refine lv_goto (tgt := 261) hx hb dL_act_254 (by decide) ?_
          exact r_iret C0 hW rz131 (by exact Or.inr (Or.inr (Or.inr (Or.inr (Or.inr (Or.inr (Or.inr (Or.inr (Or.inl (⟨by first | assumption | omega, by first | assumption | omega, hp131⟩)))))))))) dL_act_261
      · refine r_tabIn (tgt := 262) hx hb (land_r _ _) dL_act_54 (by omega) (by omega) (by rw [c102]; rfl) (by decide) ?_
        refine lv_aload_n hx hb dL_act_262 rfl (lv_at hl 2 rfl) ?_
        refine k_Vi (j := 0) (k0 := 0) C0 hW (c_X5_clearText l G w (hO)) km_L_67 ki_X5_clearText ke_X5_clearText kn_X5 kc_X5_clearText rfl hdV_X5_clearText ⟨by decide, by decide⟩ (show 0 < 11 ∧ 0 < bs 0 from ⟨by decide, by decide⟩) rfl rfl rfl hl.1 rfl (Nat.le_of_ble_eq_true rfl) dL_act_263 (fun z132 w132 H1 locs1 rz132 hp132 hW => ?_)
        have rz132a := rz132.1
        have rz132b := rz132.2
        have hO := okW_clear hO hp132
        refine lv_pop hx hb dL_act_266 rfl ?_
        refine lv_aload_n hx hb dL_act_267 rfl (lv_at hl 2 rfl) ?_
        refine lv_iload_n hx hb dL_act_268 rfl (lv_at hl 4 rfl) ?_
        refine r_iconst hx hb dL_act_269 ?_
        refine r_iand hx hb dL_act_270 ?_
        refine r_if_ne (tgt := 279) hx hb (land_r _ _) dL_act_271 (by decide) (fun c133 => ?_) (fun c133 => ?_)
        · refine lv_iload_n hx hb dL_act_279 rfl (lv_at hl 4 rfl) ?_
          refine r_iconst hx hb dL_act_280 ?_
          refine r_iand hx hb dL_act_281 ?_
          refine r_iconst hx hb dL_act_282 ?_
          refine r_icmp_ne (tgt := 291) hx hb (land_r _ _) ⟨by omega, by omega⟩ dL_act_283 (by decide) (fun c134 => ?_) (fun c134 => ?_)
          · refine r_bipush hx hb dL_act_291 (by decide) ?_
            have hnar : vp_nar .char (iI 115) = iI 115 := rfl
            refine k_Vi (j := 0) (k0 := 0) C0 hW (c_X5_type l G w132 (hO) 115 ⟨by omega, by omega⟩ (hnar)) km_L_70 ki_X5_type ke_X5_type kn_X5 kc_X5_type rfl hdV_X5_type ⟨by decide, by decide⟩ (show 0 < 11 ∧ 0 < bs 0 from ⟨by decide, by decide⟩) rfl rfl rfl hl.1 rfl (Nat.le_of_ble_eq_true rfl) dL_act_293 (fun z135 w135 H1 locs1 rz135 hp135 hW => ?_)
            have rz135a := rz135.1
            have rz135b := rz135.2
            have hO := okW_type hO hp135
            refine lv_pop hx hb dL_act_296 rfl ?_
            refine lv_aload_n hx hb dL_act_297 rfl (lv_at hl 2 rfl) ?_
            refine r_bipush hx hb dL_act_298 (by decide) ?_
            refine lv_iload_n hx hb dL_act_300 rfl (lv_at hl 4 rfl) ?_
            refine r_iconst hx hb dL_act_301 ?_
            refine r_ishr hx hb dL_act_302 ?_
            refine r_bipush hx hb dL_act_303 (by decide) ?_
            refine k_Si (host := "") C0 hW (As := [.int (iI (shr u 2)), .int (iI 8)]) (c_L_low l G w135 (shr u 2) 8 (shr_r _ _) ⟨by omega, by omega⟩ (by omega)) km_L_31 ks_L_low kn_L kc_L_low rfl hdS_L_low ⟨by decide, by decide⟩ rfl hl.1 rfl (Nat.le_of_ble_eq_true rfl) dL_act_305 (fun z136 w136 H1 locs1 rz136 hp136 hW => ?_)
            obtain ⟨hp136, hq136⟩ := hp136
            subst hq136
            have rz136a := rz136.1
            have rz136b := rz136.2
            subst hp136
            have rl136 := lowF_in (shr u 2) (n := 8) (by omega) (by omega)
            refine r_iadd hx hb dL_act_308 ?_
            refine r_i2c hx hb dL_act_309 ?_
            have hnar : vp_nar .char (iI (chv (50 + (lowF (shr u 2) 8)))) = iI (chv (50 + (lowF (shr u 2) 8))) := chv_n _
            refine k_Vi (j := 0) (k0 := 0) C0 hW (c_X5_type l G w135 (hO) (chv (50 + (lowF (shr u 2) 8))) (chv_r _) (hnar)) km_L_70 ki_X5_type ke_X5_type kn_X5 kc_X5_type rfl hdV_X5_type ⟨by decide, by decide⟩ (show 0 < 11 ∧ 0 < bs 0 from ⟨by decide, by decide⟩) rfl rfl rfl hl.1 rfl (Nat.le_of_ble_eq_true rfl) dL_act_310 (fun z137 w137 H1 locs1 rz137 hp137 hW => ?_)
            have rz137a := rz137.1
            have rz137b := rz137.2
            have hO := okW_type hO hp137
            refine lv_pop hx hb dL_act_313 rfl ?_
            refine lv_aload_n hx hb dL_act_314 rfl (lv_at hl 2 rfl) ?_
            refine k_Vi (j := 0) (k0 := 0) C0 hW (c_X5_passAll l G w137 (hO)) km_L_74 ki_X5_passAll ke_X5_passAll kn_X5 kc_X5_passAll rfl hdV_X5_passAll ⟨by decide, by decide⟩ (show 0 < 11 ∧ 0 < bs 0 from ⟨by decide, by decide⟩) rfl rfl rfl hl.1 rfl (Nat.le_of_ble_eq_true rfl) dL_act_315 (fun z138 w138 H1 locs1 rz138 hp138 hW => ?_)
            have rz138a := rz138.1
            have rz138b := rz138.2
            exact r_iret C0 hW rz138 (by exact Or.inr (Or.inr (Or.inr (Or.inr (Or.inr (Or.inr (Or.inr (Or.inr (Or.inr (Or.inr (Or.inl (⟨by first | assumption | omega, ⟨_, _, _, _, _, _, hp132, by rw [if_neg (by assumption), if_neg (by assumption)]; exact hp135, hp137, hp138⟩⟩)))))))))))) dL_act_318
          · refine r_bipush hx hb dL_act_286 (by decide) ?_
            refine lv_goto (tgt := 293) hx hb dL_act_288 (by decide) ?_
            have hnar : vp_nar .char (iI 99) = iI 99 := rfl
            refine k_Vi (j := 0) (k0 := 0) C0 hW (c_X5_type l G w132 (hO) 99 ⟨by omega, by omega⟩ (hnar)) km_L_70 ki_X5_type ke_X5_type kn_X5 kc_X5_type rfl hdV_X5_type ⟨by decide, by decide⟩ (show 0 < 11 ∧ 0 < bs 0 from ⟨by decide, by decide⟩) rfl rfl rfl hl.1 rfl (Nat.le_of_ble_eq_true rfl) dL_act_293 (fun z139 w139 H1 locs1 rz139 hp139 hW => ?_)
            have rz139a := rz139.1
            have rz139b := rz139.2
            have hO := okW_type hO hp139
            refine lv_pop hx hb dL_act_296 rfl ?_
            refine lv_aload_n hx hb dL_act_297 rfl (lv_at hl 2 rfl) ?_
            refine r_bipush hx hb dL_act_298 (by decide) ?_
            refine lv_iload_n hx hb dL_act_300 rfl (lv_at hl 4 rfl) ?_
            refine r_iconst hx hb dL_act_301 ?_
            refine r_ishr hx hb dL_act_302 ?_
            refine r_bipush hx hb dL_act_303 (by decide) ?_
            refine k_Si (host := "") C0 hW (As := [.int (iI (shr u 2)), .int (iI 8)]) (c_L_low l G w139 (shr u 2) 8 (shr_r _ _) ⟨by omega, by omega⟩ (by omega)) km_L_31 ks_L_low kn_L kc_L_low rfl hdS_L_low ⟨by decide, by decide⟩ rfl hl.1 rfl (Nat.le_of_ble_eq_true rfl) dL_act_305 (fun z140 w140 H1 locs1 rz140 hp140 hW => ?_)
            obtain ⟨hp140, hq140⟩ := hp140
            subst hq140
            have rz140a := rz140.1
            have rz140b := rz140.2
            subst hp140
            have rl140 := lowF_in (shr u 2) (n := 8) (by omega) (by omega)
            refine r_iadd hx hb dL_act_308 ?_
            refine r_i2c hx hb dL_act_309 ?_
            have hnar : vp_nar .char (iI (chv (50 + (lowF (shr u 2) 8)))) = iI (chv (50 + (lowF (shr u 2) 8))) := chv_n _
            refine k_Vi (j := 0) (k0 := 0) C0 hW (c_X5_type l G w139 (hO) (chv (50 + (lowF (shr u 2) 8))) (chv_r _) (hnar)) km_L_70 ki_X5_type ke_X5_type kn_X5 kc_X5_type rfl hdV_X5_type ⟨by decide, by decide⟩ (show 0 < 11 ∧ 0 < bs 0 from ⟨by decide, by decide⟩) rfl rfl rfl hl.1 rfl (Nat.le_of_ble_eq_true rfl) dL_act_310 (fun z141 w141 H1 locs1 rz141 hp141 hW => ?_)
            have rz141a := rz141.1
            have rz141b := rz141.2
            have hO := okW_type hO hp141
            refine lv_pop hx hb dL_act_313 rfl ?_
            refine lv_aload_n hx hb dL_act_314 rfl (lv_at hl 2 rfl) ?_
            refine k_Vi (j := 0) (k0 := 0) C0 hW (c_X5_passAll l G w141 (hO)) km_L_74 ki_X5_passAll ke_X5_passAll kn_X5 kc_X5_passAll rfl hdV_X5_passAll ⟨by decide, by decide⟩ (show 0 < 11 ∧ 0 < bs 0 from ⟨by decide, by decide⟩) rfl rfl rfl hl.1 rfl (Nat.le_of_ble_eq_true rfl) dL_act_315 (fun z142 w142 H1 locs1 rz142 hp142 hW => ?_)
            have rz142a := rz142.1
            have rz142b := rz142.2
            exact r_iret C0 hW rz142 (by exact Or.inr (Or.inr (Or.inr (Or.inr (Or.inr (Or.inr (Or.inr (Or.inr (Or.inr (Or.inr (Or.inl (⟨by first | assumption | omega, ⟨_, _, _, _, _, _, hp132, by rw [if_neg (by assumption), if_pos (by assumption)]; exact hp139, hp141, hp142⟩⟩)))))))))))) dL_act_318
        · refine r_bipush hx hb dL_act_274 (by decide) ?_
          refine lv_goto (tgt := 293) hx hb dL_act_276 (by decide) ?_
          have hnar : vp_nar .char (iI 114) = iI 114 := rfl
          refine k_Vi (j := 0) (k0 := 0) C0 hW (c_X5_type l G w132 (hO) 114 ⟨by omega, by omega⟩ (hnar)) km_L_70 ki_X5_type ke_X5_type kn_X5 kc_X5_type rfl hdV_X5_type ⟨by decide, by decide⟩ (show 0 < 11 ∧ 0 < bs 0 from ⟨by decide, by decide⟩) rfl rfl rfl hl.1 rfl (Nat.le_of_ble_eq_true rfl) dL_act_293 (fun z143 w143 H1 locs1 rz143 hp143 hW => ?_)
          have rz143a := rz143.1
          have rz143b := rz143.2
          have hO := okW_type hO hp143
          refine lv_pop hx hb dL_act_296 rfl ?_
          refine lv_aload_n hx hb dL_act_297 rfl (lv_at hl 2 rfl) ?_
          refine r_bipush hx hb dL_act_298 (by decide) ?_
          refine lv_iload_n hx hb dL_act_300 rfl (lv_at hl 4 rfl) ?_
          refine r_iconst hx hb dL_act_301 ?_
          refine r_ishr hx hb dL_act_302 ?_
          refine r_bipush hx hb dL_act_303 (by decide) ?_
          refine k_Si (host := "") C0 hW (As := [.int (iI (shr u 2)), .int (iI 8)]) (c_L_low l G w143 (shr u 2) 8 (shr_r _ _) ⟨by omega, by omega⟩ (by omega)) km_L_31 ks_L_low kn_L kc_L_low rfl hdS_L_low ⟨by decide, by decide⟩ rfl hl.1 rfl (Nat.le_of_ble_eq_true rfl) dL_act_305 (fun z144 w144 H1 locs1 rz144 hp144 hW => ?_)
          obtain ⟨hp144, hq144⟩ := hp144
          subst hq144
          have rz144a := rz144.1
          have rz144b := rz144.2
          subst hp144
          have rl144 := lowF_in (shr u 2) (n := 8) (by omega) (by omega)
          refine r_iadd hx hb dL_act_308 ?_
          refine r_i2c hx hb dL_act_309 ?_
          have hnar : vp_nar .char (iI (chv (50 + (lowF (shr u 2) 8)))) = iI (chv (50 + (lowF (shr u 2) 8))) := chv_n _
          refine k_Vi (j := 0) (k0 := 0) C0 hW (c_X5_type l G w143 (hO) (chv (50 + (lowF (shr u 2) 8))) (chv_r _) (hnar)) km_L_70 ki_X5_type ke_X5_type kn_X5 kc_X5_type rfl hdV_X5_type ⟨by decide, by decide⟩ (show 0 < 11 ∧ 0 < bs 0 from ⟨by decide, by decide⟩) rfl rfl rfl hl.1 rfl (Nat.le_of_ble_eq_true rfl) dL_act_310 (fun z145 w145 H1 locs1 rz145 hp145 hW => ?_)
          have rz145a := rz145.1
          have rz145b := rz145.2
          have hO := okW_type hO hp145
          refine lv_pop hx hb dL_act_313 rfl ?_
          refine lv_aload_n hx hb dL_act_314 rfl (lv_at hl 2 rfl) ?_
          refine k_Vi (j := 0) (k0 := 0) C0 hW (c_X5_passAll l G w145 (hO)) km_L_74 ki_X5_passAll ke_X5_passAll kn_X5 kc_X5_passAll rfl hdV_X5_passAll ⟨by decide, by decide⟩ (show 0 < 11 ∧ 0 < bs 0 from ⟨by decide, by decide⟩) rfl rfl rfl hl.1 rfl (Nat.le_of_ble_eq_true rfl) dL_act_315 (fun z146 w146 H1 locs1 rz146 hp146 hW => ?_)
          have rz146a := rz146.1
          have rz146b := rz146.2
          exact r_iret C0 hW rz146 (by exact Or.inr (Or.inr (Or.inr (Or.inr (Or.inr (Or.inr (Or.inr (Or.inr (Or.inr (Or.inr (Or.inl (⟨by first | assumption | omega, ⟨_, _, _, _, _, _, hp132, by rw [if_pos (by assumption)]; exact hp143, hp145, hp146⟩⟩)))))))))))) dL_act_318
    · refine r_iconst hx hb dL_act_31 ?_
      refine lv_goto (tgt := 48) hx hb dL_act_32 (by decide) ?_
      rw [show iI 0 = iI (rowA (w 1) v) from by unfold rowA; rw [if_pos (by omega)]]
      refine lv_istore (lv' := [(4, .int (iI (rowA (w 1) v))), (3, .int (iI (whoF v))), (0, .ref (ad G 0 0)), (1, .int (iI v)), (2, .int (iI u))]) hx hb dL_act_48 hl (by decide) rfl (fun ls hl => ?_)
      refine lv_iload_n hx hb dL_act_50 rfl (lv_at hl 3 rfl) ?_
      refine r_bipush hx hb dL_act_51 (by decide) ?_
      refine r_iand hx hb dL_act_53 ?_
      by_cases c147 : (land v 15) < 0 ∨ 11 < (land v 15)
      · refine r_tabOut (tgt := 319) hx hb (land_r _ _) dL_act_54 c147 (by decide) ?_
        refine lv_aload_n hx hb dL_act_319 rfl (lv_at hl 2 rfl) ?_
        refine lv_iload_n hx hb dL_act_320 rfl (lv_at hl 4 rfl) ?_
        refine r_iconst hx hb dL_act_321 ?_
        refine k_Si (host := "") C0 hW (As := [.int (iI u), .int (iI 4)]) (c_L_low l G w u 4 ru ⟨by omega, by omega⟩ (by omega)) km_L_31 ks_L_low kn_L kc_L_low rfl hdS_L_low ⟨by decide, by decide⟩ rfl hl.1 rfl (Nat.le_of_ble_eq_true rfl) dL_act_322 (fun z148 w148 H1 locs1 rz148 hp148 hW => ?_)
        obtain ⟨hp148, hq148⟩ := hp148
        subst hq148
        have rz148a := rz148.1
        have rz148b := rz148.2
        subst hp148
        have rl148 := lowF_in u (n := 4) (by omega) (by omega)
        refine k_Vi (j := 0) (k0 := 0) C0 hW (c_X5_pass l G w (hO) (lowF u 4) (lowF_r _ _)) km_L_77 ki_X5_pass ke_X5_pass kn_X5 kc_X5_pass rfl hdV_X5_pass ⟨by decide, by decide⟩ (show 0 < 11 ∧ 0 < bs 0 from ⟨by decide, by decide⟩) rfl rfl rfl hl.1 rfl (Nat.le_of_ble_eq_true rfl) dL_act_325 (fun z149 w149 H1 locs1 rz149 hp149 hW => ?_)
        have rz149a := rz149.1
        have rz149b := rz149.2
        exact r_iret C0 hW rz149 (by exact Or.inr (Or.inr (Or.inr (Or.inr (Or.inr (Or.inr (Or.inr (Or.inr (Or.inr (Or.inr (Or.inr (⟨by first | assumption | omega, hp149⟩)))))))))))) dL_act_328
      have c147 : (land v 15) = 0 ∨ (land v 15) = 1 ∨ (land v 15) = 2 ∨ (land v 15) = 3 ∨ (land v 15) = 4 ∨ (land v 15) = 5 ∨ (land v 15) = 6 ∨ (land v 15) = 7 ∨ (land v 15) = 8 ∨ (land v 15) = 9 ∨ (land v 15) = 10 ∨ (land v 15) = 11 := by omega
      rcases c147 with c147 | c147 | c147 | c147 | c147 | c147 | c147 | c147 | c147 | c147 | c147 | c147
      · refine r_tabIn (tgt := 116) hx hb (land_r _ _) dL_act_54 (by omega) (by omega) (by rw [c147]; rfl) (by decide) ?_
        refine lv_iload_n hx hb dL_act_116 rfl (lv_at hl 4 rfl) ?_
        refine r_iconst hx hb dL_act_117 ?_
        refine r_iand hx hb dL_act_118 ?_
        refine r_if_ne (tgt := 145) hx hb (land_r _ _) dL_act_119 (by decide) (fun c150 => ?_) (fun c150 => ?_)
        · refine lv_aload_n hx hb dL_act_145 rfl (lv_at hl 2 rfl) ?_
          refine lv_iload_n hx hb dL_act_146 rfl (lv_at hl 3 rfl) ?_
          refine r_iconst hx hb dL_act_147 ?_
          refine r_ishr hx hb dL_act_148 ?_
          refine r_bipush hx hb dL_act_149 (by decide) ?_
          refine k_Si (host := "") C0 hW (As := [.int (iI (shr v 4)), .int (iI 21)]) (c_L_low l G w (shr v 4) 21 (shr_r _ _) ⟨by omega, by omega⟩ (by omega)) km_L_31 ks_L_low kn_L kc_L_low rfl hdS_L_low ⟨by decide, by decide⟩ rfl hl.1 rfl (Nat.le_of_ble_eq_true rfl) dL_act_151 (fun z151 w151 H1 locs1 rz151 hp151 hW => ?_)
          obtain ⟨hp151, hq151⟩ := hp151
          subst hq151
          have rz151a := rz151.1
          have rz151b := rz151.2
          subst hp151
          have rl151 := lowF_in (shr v 4) (n := 21) (by omega) (by omega)
          refine lv_iload_n hx hb dL_act_154 rfl (lv_at hl 4 rfl) ?_
          refine r_iconst hx hb dL_act_155 ?_
          refine r_ishr hx hb dL_act_156 ?_
          refine r_bipush hx hb dL_act_157 (by decide) ?_
          refine k_Si (host := "") C0 hW (As := [.int (iI (shr u 1)), .int (iI 10)]) (c_L_low l G w (shr u 1) 10 (shr_r _ _) ⟨by omega, by omega⟩ (by omega)) km_L_31 ks_L_low kn_L kc_L_low rfl hdS_L_low ⟨by decide, by decide⟩ rfl hl.1 rfl (Nat.le_of_ble_eq_true rfl) dL_act_159 (fun z152 w152 H1 locs1 rz152 hp152 hW => ?_)
          obtain ⟨hp152, hq152⟩ := hp152
          subst hq152
          have rz152a := rz152.1
          have rz152b := rz152.2
          subst hp152
          have rl152 := lowF_in (shr u 1) (n := 10) (by omega) (by omega)
          refine k_Vi (j := 0) (k0 := 0) C0 hW (c_X5_handOver l G w (hO) (lowF (shr v 4) 21) (lowF (shr u 1) 10) (lowF_r _ _) (lowF_r _ _)) km_L_39 ki_X5_handOver ke_X5_handOver kn_X5 kc_X5_handOver rfl hdV_X5_handOver ⟨by decide, by decide⟩ (show 0 < 11 ∧ 0 < bs 0 from ⟨by decide, by decide⟩) rfl rfl rfl hl.1 rfl (Nat.le_of_ble_eq_true rfl) dL_act_162 (fun z153 w153 H1 locs1 rz153 hp153 hW => ?_)
          have rz153a := rz153.1
          have rz153b := rz153.2
          exact r_iret C0 hW rz153 (by exact Or.inr (Or.inl (⟨by first | assumption | omega, by first | assumption | omega, hp153⟩))) dL_act_165
        · refine lv_aload_n hx hb dL_act_122 rfl (lv_at hl 2 rfl) ?_
          refine lv_iload_n hx hb dL_act_123 rfl (lv_at hl 3 rfl) ?_
          refine r_iconst hx hb dL_act_124 ?_
          refine r_ishr hx hb dL_act_125 ?_
          refine r_bipush hx hb dL_act_126 (by decide) ?_
          refine k_Si (host := "") C0 hW (As := [.int (iI (shr v 4)), .int (iI 21)]) (c_L_low l G w (shr v 4) 21 (shr_r _ _) ⟨by omega, by omega⟩ (by omega)) km_L_31 ks_L_low kn_L kc_L_low rfl hdS_L_low ⟨by decide, by decide⟩ rfl hl.1 rfl (Nat.le_of_ble_eq_true rfl) dL_act_128 (fun z154 w154 H1 locs1 rz154 hp154 hW => ?_)
          obtain ⟨hp154, hq154⟩ := hp154
          subst hq154
          have rz154a := rz154.1
          have rz154b := rz154.2
          subst hp154
          have rl154 := lowF_in (shr v 4) (n := 21) (by omega) (by omega)
          refine lv_iload_n hx hb dL_act_131 rfl (lv_at hl 4 rfl) ?_
          refine r_iconst hx hb dL_act_132 ?_
          refine r_ishr hx hb dL_act_133 ?_
          refine r_bipush hx hb dL_act_134 (by decide) ?_
          refine k_Si (host := "") C0 hW (As := [.int (iI (shr u 1)), .int (iI 10)]) (c_L_low l G w (shr u 1) 10 (shr_r _ _) ⟨by omega, by omega⟩ (by omega)) km_L_31 ks_L_low kn_L kc_L_low rfl hdS_L_low ⟨by decide, by decide⟩ rfl hl.1 rfl (Nat.le_of_ble_eq_true rfl) dL_act_136 (fun z155 w155 H1 locs1 rz155 hp155 hW => ?_)
          obtain ⟨hp155, hq155⟩ := hp155
          subst hq155
          have rz155a := rz155.1
          have rz155b := rz155.2
          subst hp155
          have rl155 := lowF_in (shr u 1) (n := 10) (by omega) (by omega)
          refine k_Vi (j := 0) (k0 := 0) C0 hW (c_X5_lend l G w (hO) (lowF (shr v 4) 21) (lowF (shr u 1) 10) (lowF_r _ _) (lowF_r _ _)) km_L_36 ki_X5_lend ke_X5_lend kn_X5 kc_X5_lend rfl hdV_X5_lend ⟨by decide, by decide⟩ (show 0 < 11 ∧ 0 < bs 0 from ⟨by decide, by decide⟩) rfl rfl rfl hl.1 rfl (Nat.le_of_ble_eq_true rfl) dL_act_139 (fun z156 w156 H1 locs1 rz156 hp156 hW => ?_)
          have rz156a := rz156.1
          have rz156b := rz156.2
          refine lv_goto (tgt := 165) hx hb dL_act_142 (by decide) ?_
          exact r_iret C0 hW rz156 (by exact Or.inl (⟨by first | assumption | omega, by first | assumption | omega, hp156⟩)) dL_act_165
      · refine r_tabIn (tgt := 166) hx hb (land_r _ _) dL_act_54 (by omega) (by omega) (by rw [c147]; rfl) (by decide) ?_
        refine lv_iload_n hx hb dL_act_166 rfl (lv_at hl 4 rfl) ?_
        refine r_iconst hx hb dL_act_167 ?_
        refine r_iand hx hb dL_act_168 ?_
        refine r_if_ne (tgt := 188) hx hb (land_r _ _) dL_act_169 (by decide) (fun c157 => ?_) (fun c157 => ?_)
        · refine lv_aload_n hx hb dL_act_188 rfl (lv_at hl 2 rfl) ?_
          refine lv_iload_n hx hb dL_act_189 rfl (lv_at hl 4 rfl) ?_
          refine r_iconst hx hb dL_act_190 ?_
          refine r_ishr hx hb dL_act_191 ?_
          refine r_iconst hx hb dL_act_192 ?_
          refine k_Si (host := "") C0 hW (As := [.int (iI (shr u 1)), .int (iI 3)]) (c_L_low l G w (shr u 1) 3 (shr_r _ _) ⟨by omega, by omega⟩ (by omega)) km_L_31 ks_L_low kn_L kc_L_low rfl hdS_L_low ⟨by decide, by decide⟩ rfl hl.1 rfl (Nat.le_of_ble_eq_true rfl) dL_act_193 (fun z158 w158 H1 locs1 rz158 hp158 hW => ?_)
          obtain ⟨hp158, hq158⟩ := hp158
          subst hq158
          have rz158a := rz158.1
          have rz158b := rz158.2
          subst hp158
          have rl158 := lowF_in (shr u 1) (n := 3) (by omega) (by omega)
          refine lv_iload_n hx hb dL_act_196 rfl (lv_at hl 4 rfl) ?_
          refine r_iconst hx hb dL_act_197 ?_
          refine r_ishr hx hb dL_act_198 ?_
          refine r_bipush hx hb dL_act_199 (by decide) ?_
          refine k_Si (host := "") C0 hW (As := [.int (iI (shr u 3)), .int (iI 8)]) (c_L_low l G w (shr u 3) 8 (shr_r _ _) ⟨by omega, by omega⟩ (by omega)) km_L_31 ks_L_low kn_L kc_L_low rfl hdS_L_low ⟨by decide, by decide⟩ rfl hl.1 rfl (Nat.le_of_ble_eq_true rfl) dL_act_201 (fun z159 w159 H1 locs1 rz159 hp159 hW => ?_)
          obtain ⟨hp159, hq159⟩ := hp159
          subst hq159
          have rz159a := rz159.1
          have rz159b := rz159.2
          subst hp159
          have rl159 := lowF_in (shr u 3) (n := 8) (by omega) (by omega)
          refine k_Vi (j := 0) (k0 := 0) C0 hW (c_X5_set l G w (hO) (lowF (shr u 1) 3) (lowF (shr u 3) 8) (lowF_r _ _) (lowF_r _ _)) km_L_45 ki_X5_set ke_X5_set kn_X5 kc_X5_set rfl hdV_X5_set ⟨by decide, by decide⟩ (show 0 < 11 ∧ 0 < bs 0 from ⟨by decide, by decide⟩) rfl rfl rfl hl.1 rfl (Nat.le_of_ble_eq_true rfl) dL_act_204 (fun z160 w160 H1 locs1 rz160 hp160 hW => ?_)
          have rz160a := rz160.1
          have rz160b := rz160.2
          exact r_iret C0 hW rz160 (by exact Or.inr (Or.inr (Or.inr (Or.inl (⟨by first | assumption | omega, by first | assumption | omega, hp160⟩))))) dL_act_207
        · refine lv_aload_n hx hb dL_act_172 rfl (lv_at hl 2 rfl) ?_
          refine lv_iload_n hx hb dL_act_173 rfl (lv_at hl 1 rfl) ?_
          refine lv_iload_n hx hb dL_act_174 rfl (lv_at hl 4 rfl) ?_
          refine r_iconst hx hb dL_act_175 ?_
          refine r_ishr hx hb dL_act_176 ?_
          refine r_bipush hx hb dL_act_177 (by decide) ?_
          refine k_Si (host := "") C0 hW (As := [.int (iI (shr u 1)), .int (iI 22)]) (c_L_low l G w (shr u 1) 22 (shr_r _ _) ⟨by omega, by omega⟩ (by omega)) km_L_31 ks_L_low kn_L kc_L_low rfl hdS_L_low ⟨by decide, by decide⟩ rfl hl.1 rfl (Nat.le_of_ble_eq_true rfl) dL_act_179 (fun z161 w161 H1 locs1 rz161 hp161 hW => ?_)
          obtain ⟨hp161, hq161⟩ := hp161
          subst hq161
          have rz161a := rz161.1
          have rz161b := rz161.2
          subst hp161
          have rl161 := lowF_in (shr u 1) (n := 22) (by omega) (by omega)
          refine k_Vi (j := 0) (k0 := 0) C0 hW (c_X5_setDays l G w (hO) (whoF v) (lowF (shr u 1) 22) (lowF_r _ _) (lowF_r _ _)) km_L_42 ki_X5_setDays ke_X5_setDays kn_X5 kc_X5_setDays rfl hdV_X5_setDays ⟨by decide, by decide⟩ (show 0 < 11 ∧ 0 < bs 0 from ⟨by decide, by decide⟩) rfl rfl rfl hl.1 rfl (Nat.le_of_ble_eq_true rfl) dL_act_182 (fun z162 w162 H1 locs1 rz162 hp162 hW => ?_)
          have rz162a := rz162.1
          have rz162b := rz162.2
          refine lv_goto (tgt := 207) hx hb dL_act_185 (by decide) ?_
          exact r_iret C0 hW rz162 (by exact Or.inr (Or.inr (Or.inl (⟨by first | assumption | omega, by first | assumption | omega, hp162⟩)))) dL_act_207
      · refine r_tabIn (tgt := 208) hx hb (land_r _ _) dL_act_54 (by omega) (by omega) (by rw [c147]; rfl) (by decide) ?_
        refine lv_aload_n hx hb dL_act_208 rfl (lv_at hl 2 rfl) ?_
        refine lv_iload_n hx hb dL_act_209 rfl (lv_at hl 1 rfl) ?_
        refine r_iconst hx hb dL_act_210 ?_
        refine lv_iload_n hx hb dL_act_211 rfl (lv_at hl 1 rfl) ?_
        refine r_imul hx hb dL_act_212 ?_
        refine lv_iload_n hx hb dL_act_213 rfl (lv_at hl 4 rfl) ?_
        refine r_iconst hx hb dL_act_214 ?_
        refine k_Si (host := "") C0 hW (As := [.int (iI u), .int (iI 4)]) (c_L_low l G w u 4 ru ⟨by omega, by omega⟩ (by omega)) km_L_31 ks_L_low kn_L kc_L_low rfl hdS_L_low ⟨by decide, by decide⟩ rfl hl.1 rfl (Nat.le_of_ble_eq_true rfl) dL_act_215 (fun z163 w163 H1 locs1 rz163 hp163 hW => ?_)
        obtain ⟨hp163, hq163⟩ := hp163
        subst hq163
        have rz163a := rz163.1
        have rz163b := rz163.2
        subst hp163
        have rl163 := lowF_in u (n := 4) (by omega) (by omega)
        refine r_iadd hx hb dL_act_218 ?_
        refine r_iconst hx hb dL_act_219 ?_
        refine r_isub hx hb dL_act_220 ?_
        refine k_Vi (j := 0) (k0 := 0) C0 hW (c_X5_cut l G w (hO) (whoF v) (((2 * (whoF v)) + (lowF u 4)) - 1) (lowF_r _ _) ⟨by omega, by omega⟩) km_L_48 ki_X5_cut ke_X5_cut kn_X5 kc_X5_cut rfl hdV_X5_cut ⟨by decide, by decide⟩ (show 0 < 11 ∧ 0 < bs 0 from ⟨by decide, by decide⟩) rfl rfl rfl hl.1 rfl (Nat.le_of_ble_eq_true rfl) dL_act_221 (fun z164 w164 H1 locs1 rz164 hp164 hW => ?_)
        have rz164a := rz164.1
        have rz164b := rz164.2
        exact r_iret C0 hW rz164 (by exact Or.inr (Or.inr (Or.inr (Or.inr (Or.inl (⟨by first | assumption | omega, hp164⟩)))))) dL_act_224
      · refine r_tabIn (tgt := 208) hx hb (land_r _ _) dL_act_54 (by omega) (by omega) (by rw [c147]; rfl) (by decide) ?_
        refine lv_aload_n hx hb dL_act_208 rfl (lv_at hl 2 rfl) ?_
        refine lv_iload_n hx hb dL_act_209 rfl (lv_at hl 1 rfl) ?_
        refine r_iconst hx hb dL_act_210 ?_
        refine lv_iload_n hx hb dL_act_211 rfl (lv_at hl 1 rfl) ?_
        refine r_imul hx hb dL_act_212 ?_
        refine lv_iload_n hx hb dL_act_213 rfl (lv_at hl 4 rfl) ?_
        refine r_iconst hx hb dL_act_214 ?_
        refine k_Si (host := "") C0 hW (As := [.int (iI u), .int (iI 4)]) (c_L_low l G w u 4 ru ⟨by omega, by omega⟩ (by omega)) km_L_31 ks_L_low kn_L kc_L_low rfl hdS_L_low ⟨by decide, by decide⟩ rfl hl.1 rfl (Nat.le_of_ble_eq_true rfl) dL_act_215 (fun z165 w165 H1 locs1 rz165 hp165 hW => ?_)
        obtain ⟨hp165, hq165⟩ := hp165
        subst hq165
        have rz165a := rz165.1
        have rz165b := rz165.2
        subst hp165
        have rl165 := lowF_in u (n := 4) (by omega) (by omega)
        refine r_iadd hx hb dL_act_218 ?_
        refine r_iconst hx hb dL_act_219 ?_
        refine r_isub hx hb dL_act_220 ?_
        refine k_Vi (j := 0) (k0 := 0) C0 hW (c_X5_cut l G w (hO) (whoF v) (((2 * (whoF v)) + (lowF u 4)) - 1) (lowF_r _ _) ⟨by omega, by omega⟩) km_L_48 ki_X5_cut ke_X5_cut kn_X5 kc_X5_cut rfl hdV_X5_cut ⟨by decide, by decide⟩ (show 0 < 11 ∧ 0 < bs 0 from ⟨by decide, by decide⟩) rfl rfl rfl hl.1 rfl (Nat.le_of_ble_eq_true rfl) dL_act_221 (fun z166 w166 H1 locs1 rz166 hp166 hW => ?_)
        have rz166a := rz166.1
        have rz166b := rz166.2
        exact r_iret C0 hW rz166 (by exact Or.inr (Or.inr (Or.inr (Or.inr (Or.inl (⟨by first | assumption | omega, hp166⟩)))))) dL_act_224
      · refine r_tabIn (tgt := 208) hx hb (land_r _ _) dL_act_54 (by omega) (by omega) (by rw [c147]; rfl) (by decide) ?_
        refine lv_aload_n hx hb dL_act_208 rfl (lv_at hl 2 rfl) ?_
        refine lv_iload_n hx hb dL_act_209 rfl (lv_at hl 1 rfl) ?_
        refine r_iconst hx hb dL_act_210 ?_
        refine lv_iload_n hx hb dL_act_211 rfl (lv_at hl 1 rfl) ?_
        refine r_imul hx hb dL_act_212 ?_
        refine lv_iload_n hx hb dL_act_213 rfl (lv_at hl 4 rfl) ?_
        refine r_iconst hx hb dL_act_214 ?_
        refine k_Si (host := "") C0 hW (As := [.int (iI u), .int (iI 4)]) (c_L_low l G w u 4 ru ⟨by omega, by omega⟩ (by omega)) km_L_31 ks_L_low kn_L kc_L_low rfl hdS_L_low ⟨by decide, by decide⟩ rfl hl.1 rfl (Nat.le_of_ble_eq_true rfl) dL_act_215 (fun z167 w167 H1 locs1 rz167 hp167 hW => ?_)
        obtain ⟨hp167, hq167⟩ := hp167
        subst hq167
        have rz167a := rz167.1
        have rz167b := rz167.2
        subst hp167
        have rl167 := lowF_in u (n := 4) (by omega) (by omega)
        refine r_iadd hx hb dL_act_218 ?_
        refine r_iconst hx hb dL_act_219 ?_
        refine r_isub hx hb dL_act_220 ?_
        refine k_Vi (j := 0) (k0 := 0) C0 hW (c_X5_cut l G w (hO) (whoF v) (((2 * (whoF v)) + (lowF u 4)) - 1) (lowF_r _ _) ⟨by omega, by omega⟩) km_L_48 ki_X5_cut ke_X5_cut kn_X5 kc_X5_cut rfl hdV_X5_cut ⟨by decide, by decide⟩ (show 0 < 11 ∧ 0 < bs 0 from ⟨by decide, by decide⟩) rfl rfl rfl hl.1 rfl (Nat.le_of_ble_eq_true rfl) dL_act_221 (fun z168 w168 H1 locs1 rz168 hp168 hW => ?_)
        have rz168a := rz168.1
        have rz168b := rz168.2
        exact r_iret C0 hW rz168 (by exact Or.inr (Or.inr (Or.inr (Or.inr (Or.inl (⟨by first | assumption | omega, hp168⟩)))))) dL_act_224
      · refine r_tabIn (tgt := 225) hx hb (land_r _ _) dL_act_54 (by omega) (by omega) (by rw [c147]; rfl) (by decide) ?_
        refine lv_aload_n hx hb dL_act_225 rfl (lv_at hl 2 rfl) ?_
        refine lv_iload hx hb dL_act_226 (lv_at hl 0 rfl) ?_
        refine k_Vi (j := 0) (k0 := 0) C0 hW (c_X5_turn l G w (hO) (rowA (w 1) v) (rowA_r _ _)) km_L_51 ki_X5_turn ke_X5_turn kn_X5 kc_X5_turn rfl hdV_X5_turn ⟨by decide, by decide⟩ (show 0 < 11 ∧ 0 < bs 0 from ⟨by decide, by decide⟩) rfl rfl rfl hl.1 rfl (Nat.le_of_ble_eq_true rfl) dL_act_228 (fun z169 w169 H1 locs1 rz169 hp169 hW => ?_)
        have rz169a := rz169.1
        have rz169b := rz169.2
        exact r_iret C0 hW rz169 (by exact Or.inr (Or.inr (Or.inr (Or.inr (Or.inr (Or.inl (⟨by first | assumption | omega, hp169⟩))))))) dL_act_231
      · refine r_tabIn (tgt := 225) hx hb (land_r _ _) dL_act_54 (by omega) (by omega) (by rw [c147]; rfl) (by decide) ?_
        refine lv_aload_n hx hb dL_act_225 rfl (lv_at hl 2 rfl) ?_
        refine lv_iload hx hb dL_act_226 (lv_at hl 0 rfl) ?_
        refine k_Vi (j := 0) (k0 := 0) C0 hW (c_X5_turn l G w (hO) (rowA (w 1) v) (rowA_r _ _)) km_L_51 ki_X5_turn ke_X5_turn kn_X5 kc_X5_turn rfl hdV_X5_turn ⟨by decide, by decide⟩ (show 0 < 11 ∧ 0 < bs 0 from ⟨by decide, by decide⟩) rfl rfl rfl hl.1 rfl (Nat.le_of_ble_eq_true rfl) dL_act_228 (fun z170 w170 H1 locs1 rz170 hp170 hW => ?_)
        have rz170a := rz170.1
        have rz170b := rz170.2
        exact r_iret C0 hW rz170 (by exact Or.inr (Or.inr (Or.inr (Or.inr (Or.inr (Or.inl (⟨by first | assumption | omega, hp170⟩))))))) dL_act_231
      · refine r_tabIn (tgt := 232) hx hb (land_r _ _) dL_act_54 (by omega) (by omega) (by rw [c147]; rfl) (by decide) ?_
        refine lv_aload_n hx hb dL_act_232 rfl (lv_at hl 2 rfl) ?_
        refine lv_iload hx hb dL_act_233 (lv_at hl 0 rfl) ?_
        refine k_Vi (j := 0) (k0 := 0) C0 hW (c_X5_stack l G w (hO) (rowA (w 1) v) (rowA_r _ _)) km_L_54 ki_X5_stack ke_X5_stack kn_X5 kc_X5_stack rfl hdV_X5_stack ⟨by decide, by decide⟩ (show 0 < 11 ∧ 0 < bs 0 from ⟨by decide, by decide⟩) rfl rfl rfl hl.1 rfl (Nat.le_of_ble_eq_true rfl) dL_act_235 (fun z171 w171 H1 locs1 rz171 hp171 hW => ?_)
        have rz171a := rz171.1
        have rz171b := rz171.2
        exact r_iret C0 hW rz171 (by exact Or.inr (Or.inr (Or.inr (Or.inr (Or.inr (Or.inr (Or.inl (⟨by first | assumption | omega, hp171⟩)))))))) dL_act_238
      · refine r_tabIn (tgt := 232) hx hb (land_r _ _) dL_act_54 (by omega) (by omega) (by rw [c147]; rfl) (by decide) ?_
        refine lv_aload_n hx hb dL_act_232 rfl (lv_at hl 2 rfl) ?_
        refine lv_iload hx hb dL_act_233 (lv_at hl 0 rfl) ?_
        refine k_Vi (j := 0) (k0 := 0) C0 hW (c_X5_stack l G w (hO) (rowA (w 1) v) (rowA_r _ _)) km_L_54 ki_X5_stack ke_X5_stack kn_X5 kc_X5_stack rfl hdV_X5_stack ⟨by decide, by decide⟩ (show 0 < 11 ∧ 0 < bs 0 from ⟨by decide, by decide⟩) rfl rfl rfl hl.1 rfl (Nat.le_of_ble_eq_true rfl) dL_act_235 (fun z172 w172 H1 locs1 rz172 hp172 hW => ?_)
        have rz172a := rz172.1
        have rz172b := rz172.2
        exact r_iret C0 hW rz172 (by exact Or.inr (Or.inr (Or.inr (Or.inr (Or.inr (Or.inr (Or.inl (⟨by first | assumption | omega, hp172⟩)))))))) dL_act_238
      · refine r_tabIn (tgt := 239) hx hb (land_r _ _) dL_act_54 (by omega) (by omega) (by rw [c147]; rfl) (by decide) ?_
        refine lv_aload_n hx hb dL_act_239 rfl (lv_at hl 2 rfl) ?_
        refine k_Vi (j := 0) (k0 := 0) C0 hW (c_X5_settle l G w (hO)) km_L_57 ki_X5_settle ke_X5_settle kn_X5 kc_X5_settle rfl hdV_X5_settle ⟨by decide, by decide⟩ (show 0 < 11 ∧ 0 < bs 0 from ⟨by decide, by decide⟩) rfl rfl rfl hl.1 rfl (Nat.le_of_ble_eq_true rfl) dL_act_240 (fun z173 w173 H1 locs1 rz173 hp173 hW => ?_)
        have rz173a := rz173.1
        have rz173b := rz173.2
        exact r_iret C0 hW rz173 (by exact Or.inr (Or.inr (Or.inr (Or.inr (Or.inr (Or.inr (Or.inr (Or.inl (⟨by first | assumption | omega, hp173⟩))))))))) dL_act_243
      · refine r_tabIn (tgt := 244) hx hb (land_r _ _) dL_act_54 (by omega) (by omega) (by rw [c147]; rfl) (by decide) ?_
        refine lv_iload_n hx hb dL_act_244 rfl (lv_at hl 4 rfl) ?_
        refine r_iconst hx hb dL_act_245 ?_
        refine r_iand hx hb dL_act_246 ?_
        refine r_if_ne (tgt := 257) hx hb (land_r _ _) dL_act_247 (by decide) (fun c174 => ?_) (fun c174 => ?_)
        · refine lv_aload_n hx hb dL_act_257 rfl (lv_at hl 2 rfl) ?_
          refine k_Vi (j := 0) (k0 := 0) C0 hW (c_X5_restore l G w (hO)) km_L_64 ki_X5_restore ke_X5_restore kn_X5 kc_X5_restore rfl hdV_X5_restore ⟨by decide, by decide⟩ (show 0 < 11 ∧ 0 < bs 0 from ⟨by decide, by decide⟩) rfl rfl rfl hl.1 rfl (Nat.le_of_ble_eq_true rfl) dL_act_258 (fun z175 w175 H1 locs1 rz175 hp175 hW => ?_)
          have rz175a := rz175.1
          have rz175b := rz175.2
          exact r_iret C0 hW rz175 (by exact Or.inr (Or.inr (Or.inr (Or.inr (Or.inr (Or.inr (Or.inr (Or.inr (Or.inr (Or.inl (⟨by first | assumption | omega, by first | assumption | omega, hp175⟩))))))))))) dL_act_261
        · refine lv_aload_n hx hb dL_act_250 rfl (lv_at hl 2 rfl) ?_
          refine k_Vi (j := 0) (k0 := 0) C0 hW (c_X5_endYear l G w (hO)) km_L_61 ki_X5_endYear ke_X5_endYear kn_X5 kc_X5_endYear rfl hdV_X5_endYear ⟨by decide, by decide⟩ (show 0 < 11 ∧ 0 < bs 0 from ⟨by decide, by decide⟩) rfl rfl rfl hl.1 rfl (Nat.le_of_ble_eq_true rfl) dL_act_251 (fun z176 w176 H1 locs1 rz176 hp176 hW => ?_)
          have rz176a := rz176.1
          have rz176b := rz176.2
          refine lv_goto (tgt := 261) hx hb dL_act_254 (by decide) ?_
          exact r_iret C0 hW rz176 (by exact Or.inr (Or.inr (Or.inr (Or.inr (Or.inr (Or.inr (Or.inr (Or.inr (Or.inl (⟨by first | assumption | omega, by first | assumption | omega, hp176⟩)))))))))) dL_act_261
      · refine r_tabIn (tgt := 262) hx hb (land_r _ _) dL_act_54 (by omega) (by omega) (by rw [c147]; rfl) (by decide) ?_
        refine lv_aload_n hx hb dL_act_262 rfl (lv_at hl 2 rfl) ?_
        refine k_Vi (j := 0) (k0 := 0) C0 hW (c_X5_clearText l G w (hO)) km_L_67 ki_X5_clearText ke_X5_clearText kn_X5 kc_X5_clearText rfl hdV_X5_clearText ⟨by decide, by decide⟩ (show 0 < 11 ∧ 0 < bs 0 from ⟨by decide, by decide⟩) rfl rfl rfl hl.1 rfl (Nat.le_of_ble_eq_true rfl) dL_act_263 (fun z177 w177 H1 locs1 rz177 hp177 hW => ?_)
        have rz177a := rz177.1
        have rz177b := rz177.2
        have hO := okW_clear hO hp177
        refine lv_pop hx hb dL_act_266 rfl ?_
        refine lv_aload_n hx hb dL_act_267 rfl (lv_at hl 2 rfl) ?_
        refine lv_iload_n hx hb dL_act_268 rfl (lv_at hl 4 rfl) ?_
        refine r_iconst hx hb dL_act_269 ?_
        refine r_iand hx hb dL_act_270 ?_
        refine r_if_ne (tgt := 279) hx hb (land_r _ _) dL_act_271 (by decide) (fun c178 => ?_) (fun c178 => ?_)
        · refine lv_iload_n hx hb dL_act_279 rfl (lv_at hl 4 rfl) ?_
          refine r_iconst hx hb dL_act_280 ?_
          refine r_iand hx hb dL_act_281 ?_
          refine r_iconst hx hb dL_act_282 ?_
          refine r_icmp_ne (tgt := 291) hx hb (land_r _ _) ⟨by omega, by omega⟩ dL_act_283 (by decide) (fun c179 => ?_) (fun c179 => ?_)
          · refine r_bipush hx hb dL_act_291 (by decide) ?_
            have hnar : vp_nar .char (iI 115) = iI 115 := rfl
            refine k_Vi (j := 0) (k0 := 0) C0 hW (c_X5_type l G w177 (hO) 115 ⟨by omega, by omega⟩ (hnar)) km_L_70 ki_X5_type ke_X5_type kn_X5 kc_X5_type rfl hdV_X5_type ⟨by decide, by decide⟩ (show 0 < 11 ∧ 0 < bs 0 from ⟨by decide, by decide⟩) rfl rfl rfl hl.1 rfl (Nat.le_of_ble_eq_true rfl) dL_act_293 (fun z180 w180 H1 locs1 rz180 hp180 hW => ?_)
            have rz180a := rz180.1
            have rz180b := rz180.2
            have hO := okW_type hO hp180
            refine lv_pop hx hb dL_act_296 rfl ?_
            refine lv_aload_n hx hb dL_act_297 rfl (lv_at hl 2 rfl) ?_
            refine r_bipush hx hb dL_act_298 (by decide) ?_
            refine lv_iload_n hx hb dL_act_300 rfl (lv_at hl 4 rfl) ?_
            refine r_iconst hx hb dL_act_301 ?_
            refine r_ishr hx hb dL_act_302 ?_
            refine r_bipush hx hb dL_act_303 (by decide) ?_
            refine k_Si (host := "") C0 hW (As := [.int (iI (shr u 2)), .int (iI 8)]) (c_L_low l G w180 (shr u 2) 8 (shr_r _ _) ⟨by omega, by omega⟩ (by omega)) km_L_31 ks_L_low kn_L kc_L_low rfl hdS_L_low ⟨by decide, by decide⟩ rfl hl.1 rfl (Nat.le_of_ble_eq_true rfl) dL_act_305 (fun z181 w181 H1 locs1 rz181 hp181 hW => ?_)
            obtain ⟨hp181, hq181⟩ := hp181
            subst hq181
            have rz181a := rz181.1
            have rz181b := rz181.2
            subst hp181
            have rl181 := lowF_in (shr u 2) (n := 8) (by omega) (by omega)
            refine r_iadd hx hb dL_act_308 ?_
            refine r_i2c hx hb dL_act_309 ?_
            have hnar : vp_nar .char (iI (chv (50 + (lowF (shr u 2) 8)))) = iI (chv (50 + (lowF (shr u 2) 8))) := chv_n _
            refine k_Vi (j := 0) (k0 := 0) C0 hW (c_X5_type l G w180 (hO) (chv (50 + (lowF (shr u 2) 8))) (chv_r _) (hnar)) km_L_70 ki_X5_type ke_X5_type kn_X5 kc_X5_type rfl hdV_X5_type ⟨by decide, by decide⟩ (show 0 < 11 ∧ 0 < bs 0 from ⟨by decide, by decide⟩) rfl rfl rfl hl.1 rfl (Nat.le_of_ble_eq_true rfl) dL_act_310 (fun z182 w182 H1 locs1 rz182 hp182 hW => ?_)
            have rz182a := rz182.1
            have rz182b := rz182.2
            have hO := okW_type hO hp182
            refine lv_pop hx hb dL_act_313 rfl ?_
            refine lv_aload_n hx hb dL_act_314 rfl (lv_at hl 2 rfl) ?_
            refine k_Vi (j := 0) (k0 := 0) C0 hW (c_X5_passAll l G w182 (hO)) km_L_74 ki_X5_passAll ke_X5_passAll kn_X5 kc_X5_passAll rfl hdV_X5_passAll ⟨by decide, by decide⟩ (show 0 < 11 ∧ 0 < bs 0 from ⟨by decide, by decide⟩) rfl rfl rfl hl.1 rfl (Nat.le_of_ble_eq_true rfl) dL_act_315 (fun z183 w183 H1 locs1 rz183 hp183 hW => ?_)
            have rz183a := rz183.1
            have rz183b := rz183.2
            exact r_iret C0 hW rz183 (by exact Or.inr (Or.inr (Or.inr (Or.inr (Or.inr (Or.inr (Or.inr (Or.inr (Or.inr (Or.inr (Or.inl (⟨by first | assumption | omega, ⟨_, _, _, _, _, _, hp177, by rw [if_neg (by assumption), if_neg (by assumption)]; exact hp180, hp182, hp183⟩⟩)))))))))))) dL_act_318
          · refine r_bipush hx hb dL_act_286 (by decide) ?_
            refine lv_goto (tgt := 293) hx hb dL_act_288 (by decide) ?_
            have hnar : vp_nar .char (iI 99) = iI 99 := rfl
            refine k_Vi (j := 0) (k0 := 0) C0 hW (c_X5_type l G w177 (hO) 99 ⟨by omega, by omega⟩ (hnar)) km_L_70 ki_X5_type ke_X5_type kn_X5 kc_X5_type rfl hdV_X5_type ⟨by decide, by decide⟩ (show 0 < 11 ∧ 0 < bs 0 from ⟨by decide, by decide⟩) rfl rfl rfl hl.1 rfl (Nat.le_of_ble_eq_true rfl) dL_act_293 (fun z184 w184 H1 locs1 rz184 hp184 hW => ?_)
            have rz184a := rz184.1
            have rz184b := rz184.2
            have hO := okW_type hO hp184
            refine lv_pop hx hb dL_act_296 rfl ?_
            refine lv_aload_n hx hb dL_act_297 rfl (lv_at hl 2 rfl) ?_
            refine r_bipush hx hb dL_act_298 (by decide) ?_
            refine lv_iload_n hx hb dL_act_300 rfl (lv_at hl 4 rfl) ?_
            refine r_iconst hx hb dL_act_301 ?_
            refine r_ishr hx hb dL_act_302 ?_
            refine r_bipush hx hb dL_act_303 (by decide) ?_
            refine k_Si (host := "") C0 hW (As := [.int (iI (shr u 2)), .int (iI 8)]) (c_L_low l G w184 (shr u 2) 8 (shr_r _ _) ⟨by omega, by omega⟩ (by omega)) km_L_31 ks_L_low kn_L kc_L_low rfl hdS_L_low ⟨by decide, by decide⟩ rfl hl.1 rfl (Nat.le_of_ble_eq_true rfl) dL_act_305 (fun z185 w185 H1 locs1 rz185 hp185 hW => ?_)
            obtain ⟨hp185, hq185⟩ := hp185
            subst hq185
            have rz185a := rz185.1
            have rz185b := rz185.2
            subst hp185
            have rl185 := lowF_in (shr u 2) (n := 8) (by omega) (by omega)
            refine r_iadd hx hb dL_act_308 ?_
            refine r_i2c hx hb dL_act_309 ?_
            have hnar : vp_nar .char (iI (chv (50 + (lowF (shr u 2) 8)))) = iI (chv (50 + (lowF (shr u 2) 8))) := chv_n _
            refine k_Vi (j := 0) (k0 := 0) C0 hW (c_X5_type l G w184 (hO) (chv (50 + (lowF (shr u 2) 8))) (chv_r _) (hnar)) km_L_70 ki_X5_type ke_X5_type kn_X5 kc_X5_type rfl hdV_X5_type ⟨by decide, by decide⟩ (show 0 < 11 ∧ 0 < bs 0 from ⟨by decide, by decide⟩) rfl rfl rfl hl.1 rfl (Nat.le_of_ble_eq_true rfl) dL_act_310 (fun z186 w186 H1 locs1 rz186 hp186 hW => ?_)
            have rz186a := rz186.1
            have rz186b := rz186.2
            have hO := okW_type hO hp186
            refine lv_pop hx hb dL_act_313 rfl ?_
            refine lv_aload_n hx hb dL_act_314 rfl (lv_at hl 2 rfl) ?_
            refine k_Vi (j := 0) (k0 := 0) C0 hW (c_X5_passAll l G w186 (hO)) km_L_74 ki_X5_passAll ke_X5_passAll kn_X5 kc_X5_passAll rfl hdV_X5_passAll ⟨by decide, by decide⟩ (show 0 < 11 ∧ 0 < bs 0 from ⟨by decide, by decide⟩) rfl rfl rfl hl.1 rfl (Nat.le_of_ble_eq_true rfl) dL_act_315 (fun z187 w187 H1 locs1 rz187 hp187 hW => ?_)
            have rz187a := rz187.1
            have rz187b := rz187.2
            exact r_iret C0 hW rz187 (by exact Or.inr (Or.inr (Or.inr (Or.inr (Or.inr (Or.inr (Or.inr (Or.inr (Or.inr (Or.inr (Or.inl (⟨by first | assumption | omega, ⟨_, _, _, _, _, _, hp177, by rw [if_neg (by assumption), if_pos (by assumption)]; exact hp184, hp186, hp187⟩⟩)))))))))))) dL_act_318
        · refine r_bipush hx hb dL_act_274 (by decide) ?_
          refine lv_goto (tgt := 293) hx hb dL_act_276 (by decide) ?_
          have hnar : vp_nar .char (iI 114) = iI 114 := rfl
          refine k_Vi (j := 0) (k0 := 0) C0 hW (c_X5_type l G w177 (hO) 114 ⟨by omega, by omega⟩ (hnar)) km_L_70 ki_X5_type ke_X5_type kn_X5 kc_X5_type rfl hdV_X5_type ⟨by decide, by decide⟩ (show 0 < 11 ∧ 0 < bs 0 from ⟨by decide, by decide⟩) rfl rfl rfl hl.1 rfl (Nat.le_of_ble_eq_true rfl) dL_act_293 (fun z188 w188 H1 locs1 rz188 hp188 hW => ?_)
          have rz188a := rz188.1
          have rz188b := rz188.2
          have hO := okW_type hO hp188
          refine lv_pop hx hb dL_act_296 rfl ?_
          refine lv_aload_n hx hb dL_act_297 rfl (lv_at hl 2 rfl) ?_
          refine r_bipush hx hb dL_act_298 (by decide) ?_
          refine lv_iload_n hx hb dL_act_300 rfl (lv_at hl 4 rfl) ?_
          refine r_iconst hx hb dL_act_301 ?_
          refine r_ishr hx hb dL_act_302 ?_
          refine r_bipush hx hb dL_act_303 (by decide) ?_
          refine k_Si (host := "") C0 hW (As := [.int (iI (shr u 2)), .int (iI 8)]) (c_L_low l G w188 (shr u 2) 8 (shr_r _ _) ⟨by omega, by omega⟩ (by omega)) km_L_31 ks_L_low kn_L kc_L_low rfl hdS_L_low ⟨by decide, by decide⟩ rfl hl.1 rfl (Nat.le_of_ble_eq_true rfl) dL_act_305 (fun z189 w189 H1 locs1 rz189 hp189 hW => ?_)
          obtain ⟨hp189, hq189⟩ := hp189
          subst hq189
          have rz189a := rz189.1
          have rz189b := rz189.2
          subst hp189
          have rl189 := lowF_in (shr u 2) (n := 8) (by omega) (by omega)
          refine r_iadd hx hb dL_act_308 ?_
          refine r_i2c hx hb dL_act_309 ?_
          have hnar : vp_nar .char (iI (chv (50 + (lowF (shr u 2) 8)))) = iI (chv (50 + (lowF (shr u 2) 8))) := chv_n _
          refine k_Vi (j := 0) (k0 := 0) C0 hW (c_X5_type l G w188 (hO) (chv (50 + (lowF (shr u 2) 8))) (chv_r _) (hnar)) km_L_70 ki_X5_type ke_X5_type kn_X5 kc_X5_type rfl hdV_X5_type ⟨by decide, by decide⟩ (show 0 < 11 ∧ 0 < bs 0 from ⟨by decide, by decide⟩) rfl rfl rfl hl.1 rfl (Nat.le_of_ble_eq_true rfl) dL_act_310 (fun z190 w190 H1 locs1 rz190 hp190 hW => ?_)
          have rz190a := rz190.1
          have rz190b := rz190.2
          have hO := okW_type hO hp190
          refine lv_pop hx hb dL_act_313 rfl ?_
          refine lv_aload_n hx hb dL_act_314 rfl (lv_at hl 2 rfl) ?_
          refine k_Vi (j := 0) (k0 := 0) C0 hW (c_X5_passAll l G w190 (hO)) km_L_74 ki_X5_passAll ke_X5_passAll kn_X5 kc_X5_passAll rfl hdV_X5_passAll ⟨by decide, by decide⟩ (show 0 < 11 ∧ 0 < bs 0 from ⟨by decide, by decide⟩) rfl rfl rfl hl.1 rfl (Nat.le_of_ble_eq_true rfl) dL_act_315 (fun z191 w191 H1 locs1 rz191 hp191 hW => ?_)
          have rz191a := rz191.1
          have rz191b := rz191.2
          exact r_iret C0 hW rz191 (by exact Or.inr (Or.inr (Or.inr (Or.inr (Or.inr (Or.inr (Or.inr (Or.inr (Or.inr (Or.inr (Or.inl (⟨by first | assumption | omega, ⟨_, _, _, _, _, _, hp177, by rw [if_pos (by assumption)]; exact hp188, hp190, hp191⟩⟩)))))))))))) dL_act_318
