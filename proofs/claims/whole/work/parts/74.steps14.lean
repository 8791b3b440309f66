theorem y0_4 (A : Int → Int32) : aI (y0A A) 4 = 0 := by
  unfold y0A
  rw [aI_n _ _ (by decide), aI_n _ _ (by decide), aI_n _ _ (by decide), aI_e]; rfl
theorem y0_7 (A : Int → Int32) : aI (y0A A) 7 = 0 := by
  unfold y0A
  rw [aI_n _ _ (by decide), aI_n _ _ (by decide), aI_e]; rfl
theorem y0_2 (A : Int → Int32) : aI (y0A A) 2 = 0 := by
  unfold y0A
  rw [aI_n _ _ (by decide), aI_e]; rfl
theorem y0_3 (A : Int → Int32) : aI (y0A A) 3 = (iI (aI A 3 + 1)).toInt := by
  unfold y0A
  rw [aI_e]
set_option maxRecDepth 20000 in
theorem rl_yr {C : gM} {A : Int → Int32} (h : rl C A) (hw : wf (yrM C)) : rl (yrM C) (yrA A) := by
  obtain ⟨w, i, a1, a2, a3, a4, a5⟩ := h
  obtain ⟨v1, v2, -⟩ := w
  obtain ⟨i1, i2, i3, i4, i5⟩ := i
  obtain ⟨s1, s2, s3, s4⟩ := a1
  have n1 : ∀ r : Int, 0 ≤ r → r < 120 → ¬ pLy (yrM C) r := by
    intro r r0 r1 t
    by_cases q : r < gN C 7 6
    · apply t
      show (zeF C 13 (gN C 7 6) r).toInt = 0
      unfold zeF
      rw [if_pos ⟨r0, q⟩]
      rfl
    · have e : gA (yrM C) 13 r = gA C 13 r := by
        show (zeF C 13 (gN C 7 6) r).toInt = (C.1 13 r).toInt
        unfold zeF
        rw [if_neg (by omega)]
      exact i1.2 r (by omega) r1 (by unfold pLy at *; rw [← e]; exact t)
  have e6 : gN (yrM C) 7 6 = gN C 7 6 := rfl
  have e5 : gN (yrM C) 14 5 = gN C 14 5 := rfl
  have e4 : gN (yrM C) 14 4 = gN C 14 5 := by
    show (iI (gN C 14 5)).toInt = gN C 14 5
    exact iI_t ⟨by omega, by omega⟩
  have c0 : cntI (pLy (yrM C)) (gN (yrM C) 7 6) = 0 := cntI_no (by rw [e6]; exact v1.1) (fun r r0 r1 => n1 r r0 (by rw [e6] at r1; omega))
  have g1 : gA (yrM C) 1 = gA C 1 := rfl
  have u5 : ∀ c : Int, 0 ≤ c → c ≤ 9 → gA (yrM C) 5 c = 0 := by
    intro c c0 c1
    show (zeF C 5 10 c).toInt = 0
    unfold zeF
    rw [if_pos (by omega)]
    rfl
  have hlo : ∀ i : Int, 0 ≤ i → i < 11 → ¬ i = 4 → ¬ i = 7 → ¬ i = 2 → ¬ i = 3 → aI (yrA A) i = aI A i := fun i x0 x1 y4 y7 y2 y3 => by rw [yr_o (by omega) (by omega), y0_o (by omega) y4 y7 y2 y3]
  refine ⟨hw, ⟨⟨by rw [c0]; decide, fun r r0 r1 => n1 r (by rw [e6] at r0; omega) r1⟩, fun p p0 p1 => ⟨(i2 p p0 p1).1, (i2 p p0 p1).2.1, (i2 p p0 p1).2.1⟩, (by rw [g1, e6]; exact i3), i4, fun d d0 d1 => ?_⟩, ⟨⟨?_, ?_, ?_, ?_⟩, ⟨?_, ?_, ?_⟩, ⟨?_, ?_⟩, ?_, ?_⟩, fun c c0 c1 => ?_, fun p p0 p1 => ?_, ⟨fun r r0 r1 hr => ?_, fun q q0 q1 => ?_, fun q q0 q1 => ?_⟩, fun d d0 d1 => ?_⟩
  · rw [e4] at d0; rw [e5] at d1; omega
  · rw [hlo 0 (by decide) (by decide) (by decide) (by decide) (by decide) (by decide)]; exact s1.1
  · rw [hlo 1 (by decide) (by decide) (by decide) (by decide) (by decide) (by decide)]; exact s1.2.1
  · rw [yr_o (by omega) (by omega), y0_2]; rfl
  · rw [yr_o (by omega) (by omega), y0_3, s1.2.2.2]; rfl
  · rw [yr_o (by omega) (by omega), c0, y0_4]
  · rw [hlo 5 (by decide) (by decide) (by decide) (by decide) (by decide) (by decide), e6]; exact s2.2.1
  · rw [hlo 6 (by decide) (by decide) (by decide) (by decide) (by decide) (by decide)]; exact s2.2.2
  · rw [yr_o (by omega) (by omega), e4, e5, Int.sub_self, y0_7]
  · rw [hlo 8 (by decide) (by decide) (by decide) (by decide) (by decide) (by decide), e5]; exact s3.2
  · rw [hlo 9 (by decide) (by decide) (by decide) (by decide) (by decide) (by decide)]; exact s4.1
  · rw [hlo 10 (by decide) (by decide) (by decide) (by decide) (by decide) (by decide)]; exact s4.2
  · obtain ⟨t1, t2, t3⟩ := a2 c c0 c1
    rw [yr_u ⟨c0, c1⟩, u5 c c0 c1, yr_o (by omega) (by omega), yr_o (by omega) (by omega), y0_o (by omega) (by omega) (by omega) (by omega) (by omega), y0_o (by omega) (by omega) (by omega) (by omega) (by omega)]
    exact ⟨t1, rfl, t3⟩
  · obtain ⟨t1, t2, t3⟩ := a3 p p0 p1
    rw [yr_r ⟨p0, p1⟩, yr_o (by omega) (by omega), yr_o (by omega) (by omega), y0_o (by omega) (by omega) (by omega) (by omega) (by omega), y0_o (by omega) (by omega) (by omega) (by omega) (by omega)]
    exact ⟨t1, t2, t2⟩
  · rw [e6] at r1
    exact absurd hr (n1 r r0 (by omega))
  · rw [yr_o (by omega) (by omega), yr_o (by omega) (by omega), y0_z (by omega) (by omega), y0_z (by omega) (by omega)]
    decide
  · rw [yr_o (by omega) (by omega), y0_z (by omega) (by omega)]
    decide
  · rw [e4, e5] at d1; omega
theorem st_endYear {w w1 w2 : gW} {b0 b1 b2 b3 : Nat} {z1 z2 : Int} (h : Rel w b0 b1 b2 b3) (hw : wf (yrM (w 1))) (h1 : po_X5_endYear w b0 b1 b2 b3 z1 w1) (h2 : po_X6_endYear w1 z2 w2) : Fin z1 z2 w2 := by
  have r := h.2.1
  unfold po_X5_endYear at h1
  unfold po_X6_endYear at h2
  obtain ⟨-, e1, ew⟩ := h1
  obtain ⟨-, f1, fw⟩ := h2
  have e10 : w1 10 = w 10 := by rw [ew]; exact rec10 h _
  rw [e10] at f1 fw
  exact Fin_act h (by rw [e1, f1, r.2.2.1.2.1.1]) ew fw (rl_yr r hw)
