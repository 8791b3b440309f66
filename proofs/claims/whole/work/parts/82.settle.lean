theorem iI_x (x y : Int) : iI (x + (iI y).toInt) = iI (x + y) := by rw [← iI_add, iI_o, iI_add]
theorem iI_y (x y : Int) : iI ((iI x).toInt + y) = iI (x + y) := by rw [← iI_add, iI_o, iI_add]
/-- the days used and the hearth of a commoner -/
theorem rl_us {C : gM} {A : Int → Int32} (h : rl C A) {co : Int} (hc : 0 ≤ co ∧ co ≤ 9) (v : Int32) : rl (sA C 5 co v) (st A (11 + 3 * co + 1) v) := by
  refine rl_C h (wf_A h.1 rfl rfl rfl rfl rfl rfl rfl rfl rfl) (fun c q x => by rw [gA_sA, if_neg (by omega)]) (fun _ _ => rfl) (fun i _ _ _ => aI_n _ _ (by omega)) (fun c c0 c1 => ?_) (fun c c0 c1 => ?_)
  · obtain ⟨u1, u2, u3⟩ := h.2.2.2.1 c c0 c1
    simp only [gA_sA, st_aI]
    simp (decide := true) only [true_and, false_and, if_false]
    by_cases q : c = co
    · subst q
      repeat (first | rw [if_pos rfl] | rw [if_neg (by omega)])
      exact ⟨u1, rfl, u3⟩
    · repeat (first | rw [if_neg q] | rw [if_neg (by omega)])
      exact ⟨u1, u2, u3⟩
  · rw [gA_sA, if_neg (by omega)]
    exact h.2.1.2.2.2.1 c c0 c1
theorem rl_hr {C : gM} {A : Int → Int32} (h : rl C A) {co : Int} (hc : 0 ≤ co ∧ co ≤ 9) (v : Int32) : rl (sA C 6 co v) (st A (11 + 3 * co + 2) v) := by
  refine rl_C h (wf_A h.1 rfl rfl rfl rfl rfl rfl rfl rfl rfl) (fun c q x => by rw [gA_sA, if_neg (by omega)]) (fun _ _ => rfl) (fun i _ _ _ => aI_n _ _ (by omega)) (fun c c0 c1 => ?_) (fun c c0 c1 => ?_)
  · obtain ⟨u1, u2, u3⟩ := h.2.2.2.1 c c0 c1
    simp only [gA_sA, st_aI]
    simp (decide := true) only [true_and, false_and, if_false]
    by_cases q : c = co
    · subst q
      repeat (first | rw [if_pos rfl] | rw [if_neg (by omega)])
      exact ⟨u1, u2, rfl⟩
    · repeat (first | rw [if_neg q] | rw [if_neg (by omega)])
      exact ⟨u1, u2, u3⟩
  · rw [gA_sA, if_neg (by omega)]
    exact h.2.1.2.2.2.1 c c0 c1
theorem rl_giv {C : gM} {A : Int → Int32} (h : rl C A) {a b m : Int} (ha : 0 ≤ a ∧ a ≤ 9) (hb : 0 ≤ b ∧ b ≤ 9) (hm : min 20 (gA C 6 a) = m) : rl (givM C a b) (st (st A (11 + 3 * a + 2) (iI (aI A (11 + 3 * a + 2) - m))) (11 + 3 * b + 2) (iI (aI (st A (11 + 3 * a + 2) (iI (aI A (11 + 3 * a + 2) - m))) (11 + 3 * b + 2) + m))) := by
  unfold givM
  rw [if_pos ⟨ha, hb⟩, hm]
  have u3 := (h.2.2.2.1 a ha.1 ha.2).2.2
  have s1 := rl_hr h ha (iI (gA C 6 a - m))
  have u4 := (s1.2.2.2.1 b hb.1 hb.2).2.2
  have s2 := rl_hr s1 hb (iI (gA (sA C 6 a (iI (gA C 6 a - m))) 6 b + m))
  rw [u3, u4]
  exact s2
/-- a row gets another owner -/
theorem rl_who {C : gM} {A : Int → Int32} (h : rl C A) {x : Int} (hl : lyi C x) (v : Int32) : rl (sA C 8 x v) (st A (101 + 6 * cntI (pLy C) x + 1) v) := by
  have p := rl_row h hl.1 hl.2.1 hl.2.2
  have hw : wf (sA C 8 x v) := wf_A h.1 rfl rfl rfl rfl rfl rfl rfl rfl rfl
  obtain ⟨w, i, a1, a2, a3, a4, a5⟩ := h
  have c2 := a1.2.1.1
  have i1 := i.1.1
  have k0 := p.1
  have e : ∀ d : Nat, ¬ d = 8 → ∀ r, gA (sA C 8 x v) d r = gA C d r := fun d q r => by rw [gA_sA, if_neg (fun t => q t.1)]
  have hpl : pLy (sA C 8 x v) = pLy C := by
    funext r
    unfold pLy
    rw [e 13 (by omega)]
  refine ⟨hw, ?_, rlS_c a1 (e 13 (by omega)) (fun _ _ => rfl) (fun i _ _ => aI_n _ _ (by omega)), rlC_c a2 (fun d _ _ => e d (by omega)) (fun i _ _ => aI_n _ _ (by omega)), rlP_c a3 (fun d _ _ => e d (by omega)) (fun i _ _ => aI_n _ _ (by omega)), ⟨fun r r0 r1 hr => ?_, fun q q0 q1 => ?_, fun q q0 q1 => ?_⟩, rlD_c a5 w (fun d _ _ => e d (by omega)) rfl rfl (fun i _ _ => aI_n _ _ (by omega))⟩
  · obtain ⟨b1, b2, b3, b4, b5⟩ := i
    refine ⟨by rw [hpl]; exact b1, fun p p0 p1 => ?_, ?_, fun d d0 d1 => ?_, fun d d0 d1 => ?_⟩
    · rw [e 1 (by omega), e 2 (by omega), e 3 (by omega)]; exact b2 p p0 p1
    · rw [show gA (sA C 8 x v) 1 = gA C 1 from funext fun r => e 1 (by omega) r]; exact b3
    · rw [e 4 (by omega)]; exact b4 d d0 d1
    · rw [e 15 (by omega), e 16 (by omega)]; exact b5 d d0 d1
  · rw [hpl] at hr ⊢
    have r1 : r < gN C 7 6 := r1
    obtain ⟨⟨g0, g1, g2⟩, g3, g4, g5⟩ := a4.1 r r0 r1 hr
    by_cases q : r = x
    · subst q
      rw [aI_n _ _ (by omega), aI_e, aI_n _ _ (by omega), aI_n _ _ (by omega), aI_n _ _ (by omega), aI_n _ _ (by omega), e 9 (by omega), e 10 (by omega), e 11 (by omega), e 12 (by omega), gA_sA, if_pos ⟨rfl, rfl⟩]
      exact ⟨⟨g0, rfl, g2⟩, g3, g4, g5⟩
    · have hne : ¬ cntI (pLy C) r = cntI (pLy C) x := fun t => q (rank_inj r0 hl.1 hr hl.2.2 t)
      have e2 : ∀ d : Nat, gA (sA C 8 x v) d r = gA C d r := fun d => by rw [gA_sA, if_neg (fun t => q t.2)]
      rw [e2, e2, e2, e2, e2, aI_n _ _ (by omega), aI_n _ _ (by omega), aI_n _ _ (by omega), aI_n _ _ (by omega), aI_n _ _ (by omega), aI_n _ _ (by omega)]
      exact ⟨⟨g0, g1, g2⟩, g3, g4, g5⟩
  · rw [aI_n _ _ (by omega), aI_n _ _ (by omega)]
    exact a4.2.1 q q0 q1
  · rw [aI_n _ _ (by omega)]
    exact a4.2.2 q q0 q1
/-- the oldest dispute is taken off -/
theorem dp_o {A : Int → Int32} {x : Int} (h : 0 < aI A 7) (hx : x < 461) (h7 : ¬ x = 7) : aI (dpA A) x = aI A x := dpA_lo (by omega) hx h7
theorem dp_7 {A : Int → Int32} (h : 0 < aI A 7) (h2 : aI A 7 ≤ 120) : aI (dpA A) 7 = aI A 7 - 1 := by
  unfold dpA
  rw [aI_so _ _ (by omega), aI_so _ _ (by omega), aI_e, iI_t ⟨by omega, by omega⟩]
theorem dp_k {A : Int → Int32} {d k : Int} (hd : 0 ≤ d ∧ d < aI A 7 - 1) (hk : 0 ≤ k ∧ k < 4) : aI (dpA A) (461 + 4 * d + k) = aI A (461 + 4 * (d + 1) + k) := by
  unfold dpA
  rw [aI_so _ _ (by omega), aI_si _ _ (by omega)]
  show aI A (461 + 4 * d + k + 4) = _
  rw [show 461 + 4 * d + k + 4 = 461 + 4 * (d + 1) + k by omega]
theorem rl_dp {C : gM} {A : Int → Int32} (h : rl C A) (ho : 0 < aI A 7) : rl (stl1 C) (dpA A) := by
  have e7 := h.2.2.1.2.2.1.1
  have hwf := wf_stl1 h.1 (by omega)
  obtain ⟨w, i, a1, a2, a3, a4, a5⟩ := h
  obtain ⟨v1, v2, -⟩ := id w
  obtain ⟨i1, i2, i3, i4, i5⟩ := i
  obtain ⟨s1, s2, s3, s4⟩ := a1
  have n4 : gN (stl1 C) 14 4 = gN C 14 4 + 1 := iI_t (z := gN C 14 4 + 1) ⟨by omega, by omega⟩
  have nO : ∀ c f : Nat, ¬ (c = 14 ∧ f = 4) → gN (stl1 C) c f = gN C c f := fun c f t => by
    unfold stl1
    rw [gN_sS, if_neg t]
  have pe : pLy (stl1 C) = pLy C := rfl
  refine ⟨hwf, ⟨?_, i2, ?_, i4, fun d d0 d1 => ?_⟩, ⟨?_, ?_, ?_, ?_⟩, rlC_c a2 (fun _ _ _ _ => rfl) (fun x _ _ => dp_o ho (by omega) (by omega)), rlP_c a3 (fun _ _ _ _ => rfl) (fun x _ _ => dp_o ho (by omega) (by omega)), rlR_c a4 i1.1 (fun _ _ _ _ => rfl) (nO 7 6 (by decide)) (fun x _ _ => dp_o ho (by omega) (by omega)), fun d d0 d1 => ?_⟩
  · rw [pe, nO 7 6 (by decide)]; exact i1
  · rw [nO 7 6 (by decide)]; exact i3
  · rw [n4] at d0
    rw [nO 14 5 (by decide)] at d1
    exact i5 d (by omega) d1
  · rw [dp_o ho (by decide) (by decide), dp_o ho (by decide) (by decide), dp_o ho (by decide) (by decide), dp_o ho (by decide) (by decide), nO 0 8 (by decide), nO 0 9 (by decide), nO 0 11 (by decide), nO 0 12 (by decide)]
    exact s1
  · rw [dp_o ho (by decide) (by decide), dp_o ho (by decide) (by decide), dp_o ho (by decide) (by decide), pe, nO 7 6 (by decide), nO 0 13 (by decide)]
    exact s2
  · rw [dp_7 ho (by omega), dpA_lo (x := 8) (by omega) (by decide) (by decide), n4, nO 14 5 (by decide)]
    omega
  · rw [dp_o ho (by decide) (by decide), dp_o ho (by decide) (by decide), nO 0 10 (by decide)]
    exact s4
  · rw [n4, nO 14 5 (by decide)] at d1
    rw [n4, dp_k ⟨d0, by omega⟩ (by decide), dp_k ⟨d0, by omega⟩ (by decide), dp_k ⟨d0, by omega⟩ (by decide), dp_k ⟨d0, by omega⟩ (by decide), show gN C 14 4 + 1 + d = gN C 14 4 + (d + 1) by omega]
    exact a5 (d + 1) (by omega) (by omega)
theorem st_settle {w w1 w2 : gW} {b0 b1 b2 b3 : Nat} {z1 z2 : Int} (h : Rel w b0 b1 b2 b3) (h1 : po_X5_settle w b0 b1 b2 b3 z1 w1) (h2 : po_X6_settle w1 z2 w2) : Fin z1 z2 w2 := by
  have r := h.2.1
  unfold po_X5_settle at h1
  unfold po_X6_settle at h2
  have e10 : w1 10 = w 10 := by
    rcases h1 with ⟨-, -, ew⟩ | ⟨-, -, ew⟩ <;> rw [ew]
    exact rec10 h _
  rw [e10] at h2
  obtain ⟨A, eA⟩ : ∃ A, A = (w 10).1 1 := ⟨_, rfl⟩
  rw [← eA] at r h2
  have e7 := r.2.2.1.2.2.1.1
  have e1' := r.2.2.1.1.2.1
  rcases h1 with ⟨c1, e1, ew⟩ | ⟨c1, e1, ew⟩
  · rw [ew] at h2
    rcases h2 with ⟨d1, f1, fw⟩ | ⟨d1, -⟩ | ⟨d1, -⟩ | ⟨d1, -⟩ | ⟨d1, -⟩ | ⟨d1, -⟩ <;> first | exact Fin_no h (by omega) fw | (exfalso; omega)
  · have w1' := r.1.2.1
    by_cases c0 : 0 < aI A 7
    · have rd := rl_dp r c0
      obtain ⟨t0, t1, t2, -⟩ := r.2.2.2.2.2.2 0 (by decide) (by omega)
      rw [show gN (w 1) 14 4 + 0 = gN (w 1) 14 4 from Int.add_zero _] at t0 t1 t2
      obtain ⟨hc, hw⟩ := r.2.1.2.2.2.2 (gN (w 1) 14 4) (by omega) (by omega)
      rw [t0, t1, t2] at h2
      obtain ⟨cu, ecu⟩ : ∃ cu, cu = gA (w 1) 15 (gN (w 1) 14 4) := ⟨_, rfl⟩
      obtain ⟨wr, ewr⟩ : ∃ wr, wr = gA (w 1) 16 (gN (w 1) 14 4) := ⟨_, rfl⟩
      obtain ⟨ro, ero⟩ : ∃ ro, ro = gA (w 1) 17 (gN (w 1) 14 4) := ⟨_, rfl⟩
      rw [← ecu, ← ewr, ← ero] at h2
      rw [← ecu] at hc
      rw [← ewr] at hw
      unfold stlM at ew
      unfold stlZ at e1
      rw [← ecu, ← ewr, ← ero] at ew
      rw [← ewr] at e1
      obtain ⟨u1, u2, u3⟩ := rd.2.2.2.1 cu hc.1 hc.2
      by_cases q : gN (w 1) 0 9 = 0
      · rw [if_pos q] at ew e1
        have hd : pD (stl1 (w 1)) cu ↔ aI (dpA A) (11 + 3 * cu + 1) < aI (dpA A) (11 + 3 * cu + 0) := by
          unfold pD
          rw [u1, u2]
          exact ⟨fun t => t.2, fun t => ⟨hc, t⟩⟩
        rcases h2 with ⟨d1, -⟩ | ⟨d1, d2, d3, f1, fw⟩ | ⟨d1, d2, d3, f1, fw⟩ | ⟨d1, d2, -⟩ | ⟨d1, d2, -⟩ | ⟨d1, d2, -⟩
        · exfalso; omega
        · rw [show usdM (stl1 (w 1)) cu = sA (stl1 (w 1)) 5 cu (iI (gA (stl1 (w 1)) 5 cu + 1)) from @if_pos _ (Classical.propDecidable _) (hd.2 d3) _ _ _] at ew
          rw [u2] at fw
          exact Fin_act h (by rw [e1, f1]) ew fw (rl_us rd hc _)
        · rw [show usdM (stl1 (w 1)) cu = stl1 (w 1) from @if_neg _ (Classical.propDecidable _) (fun t => d3 (hd.1 t)) _ _ _] at ew
          refine Fin_act h (by rw [e1, f1]) ew fw (rl_c rd (fun i i0 i1 => ?_))
          rw [st_aI]
          split
          · next t => rw [t, Int.add_zero, iI_t (aI_r _ _)]
          · rfl
        · exfalso; omega
        · exfalso; omega
        · exfalso; omega
      · rw [if_neg q] at ew e1
        by_cases hl : lyi (stl1 (w 1)) ro
        · rw [@if_pos _ (Classical.propDecidable _) hl] at ew
          have hl2 : lyi (w 1) ro := hl
          have p := rl_row r hl2.1 hl2.2.1 hl2.2.2
          rcases h2 with ⟨d1, -⟩ | ⟨d1, d2, -⟩ | ⟨d1, d2, -⟩ | ⟨d1, d2, ⟨pa, p1, f1, fw⟩, -⟩ | ⟨d1, d2, d3, -⟩ | ⟨d1, d2, d3, -⟩
          · exfalso; omega
          · exfalso; omega
          · exfalso; omega
          · rw [plc_u p1 p] at fw
            exact Fin_act h (by rw [e1, f1]) ew fw (rl_who rd hl _)
          · exact absurd hl2 ((rl_nop r).1 d3)
          · exact absurd hl2 ((rl_nop r).1 d3)
        · rw [@if_neg _ (Classical.propDecidable _) hl] at ew
          have np := (rl_nop r).2 (show ¬ lyi (w 1) ro from hl)
          rcases h2 with ⟨d1, -⟩ | ⟨d1, d2, -⟩ | ⟨d1, d2, -⟩ | ⟨d1, d2, ⟨pa, p1, f1, fw⟩, -⟩ | ⟨d1, d2, d3, d4, f1, fw⟩ | ⟨d1, d2, d3, d4, f1, fw⟩
          · exfalso; omega
          · exfalso; omega
          · exfalso; omega
          · exact absurd p1.2.1 (np pa p1.1.1 p1.1.2)
          · rw [iI_x, ← Int.sub_eq_add_neg] at fw
            exact Fin_act h (by rw [e1, f1]) ew fw (rl_giv rd hc hw (by omega))
          · rw [iI_x, ← Int.sub_eq_add_neg] at fw
            exact Fin_act h (by rw [e1, f1]) ew fw (rl_giv rd hc hw (by omega))
    · omega
